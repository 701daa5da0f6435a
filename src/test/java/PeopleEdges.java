/** What is told of PEOPLE and PASSAGES: promises 6 to 8. */
final class PeopleEdges extends Edges {
    // "Of a PERSON ... UNKNOWN; OUTSIDE."

    static void p06_person_lastOneIsKnown(Due due) {
        for (int people = 1; people <= 5; people++) {
            due.is("person, the last of " + people, ofPeople(people).person(people - 1, 3), 0);
        }
    }

    static void p06_person_firstBeyondIsUnknown(Due due) {
        for (int people = 1; people <= 5; people++) {
            ShameYards x = ofPeople(people);
            each(due, "person(%d, 0) of " + people, beyond(people), who -> x.person(who, 0), UNKNOWN);
        }
    }

    static void p06_person_what0And6AreTaken(Due due) {
        due.is("person(0, 0)", ofPeople(1).person(0, 0), 0);
        due.is("person(0, 6)", ofPeople(1).person(0, 6), 0);
    }

    static void p06_person_whatBesideIsOutside(Due due) {
        ShameYards x = ofPeople(5);
        int[] wrong = {-1, 7, -2, 8, 10, LEAST, MOST, 65536, 256};
        each(due, "person(0, %d)", wrong, what -> x.person(0, what), OUTSIDE);
        each(due, "person(4, %d)", wrong, what -> x.person(4, what), OUTSIDE);
    }

    static void p06_person_unknownIsToldAheadOfOutside(Due due) {
        ShameYards x = ofPeople(2);
        due.is("person(2, 7)", x.person(2, 7), UNKNOWN);
        due.is("person(-1, -1)", x.person(-1, -1), UNKNOWN);
        due.is("person(0, 7) with no ministry", new ShameYards().person(0, 7), UNKNOWN);
    }

    static void p06_person_refusedChangesNothing(Due due) {
        Twins.unchanged(due, "person(3, 0)", x -> x.person(3, 0), UNKNOWN);
        Twins.unchanged(due, "person(0, 7)", x -> x.person(0, 7), OUTSIDE);
    }

    static void p06_person_askingChangesNothing(Due due) {
        int[] told = {0, 2, 2, 1, 7, 0, NONE};
        for (int what = 0; what <= 6; what++) {
            int asked = what;
            Twins.unchanged(due, "person(0, " + what + ")", x -> x.person(0, asked), told[what]);
        }
    }

    // "0 KIND, 1 DEEDS, 2 LIES, 3 the ROOM, 4 STEPS that he took"

    static void p06_person_kindsByTheirLetters(Due due) {
        String letters = "cbmwl";
        for (int kind = 0; kind < 5; kind++) {
            due.is("person(0, 0) of " + letters.charAt(kind),
                    of("2;011;" + letters.charAt(kind) + "00").person(0, 0), kind);
        }
    }

    static void p06_person_deedsAndLies0And9(Due due) {
        ShameYards x = of("2;011;c09,c90");
        due.is("person(0, 1)", x.person(0, 1), 0);
        due.is("person(0, 2)", x.person(0, 2), 9);
        due.is("person(1, 1)", x.person(1, 1), 9);
        due.is("person(1, 2)", x.person(1, 2), 0);
    }

    static void p06_person_firstAndLastRoom(Due due) {
        ShameYards x = of("5;041;c00,c00");
        due.is("person(0, 3)", x.person(0, 3), 0);
        x.go(0, 0, -1);
        due.is("person(0, 3)", x.person(0, 3), 4);
        due.is("person(1, 3)", x.person(1, 3), 0);
    }

    static void p06_person_noStepsAtFirst(Due due) {
        due.is("person(0, 4)", of("2;019;l99").person(0, 4), 0);
    }

    static void p06_person_mostStepsThatOneCanTake(Due due) {
        ShameYards x = of("2;015;l99");
        times(90, () -> x.go(0, 0, -1)); // of 100 each
        x.carpet(0, 9);
        x.go(0, 0, -1);
        due.is("person(0, 4)", x.person(0, 4), 9108);
        due.is("go(0, 0, -1)", x.go(0, 0, -1), FULL);
        due.is("person(0, 4)", x.person(0, 4), 9108);
    }

    // "LIES (0 to 9) he can have told, all else as it is, so that all that is SEEN of him is so: as bits"

    static void p06_person_liesNothingIsSeen(Due due) {
        due.is("person(0, 5)", of("2;011;c00").person(0, 5), 1023);
        due.is("person(0, 5)", of("2;011;c99").person(0, 5), 1023);
    }

    private static void lies(Due due, String text, int steps, int bits) {
        ShameYards x = of(text);
        x.see(0, 0, -1, steps);
        due.is("person(0, 5) of " + text + " in " + steps, x.person(0, 5), bits);
    }

    static void p06_person_lies0IsTheFirstBit(Due due) {
        lies(due, "2;011;c35", 4, 1);
    }

    static void p06_person_lies9IsTheLastBit(Due due) {
        lies(due, "2;011;c35", 22, 512);
    }

    static void p06_person_liesBelow0AreNone(Due due) {
        lies(due, "2;011;c35", 2, 0);
        lies(due, "2;011;c35", 3, 0);
    }

    static void p06_person_liesAbove9AreNone(Due due) {
        lies(due, "2;011;c35", 23, 0);
        lies(due, "2;011;c35", 24, 0);
    }

    static void p06_person_liesBetweenTwoStepsAreNone(Due due) {
        lies(due, "2;011;c35", 5, 0);
    }

    static void p06_person_liesOfEachKindAtTheirEnds(Due due) {
        lies(due, "2;019;b90", 9, 1);
        lies(due, "2;019;b90", 18, 512);
        lies(due, "2;019;m90", 36, 1);
        lies(due, "2;019;m90", 54, 512);
        lies(due, "2;019;l90", 72, 1);
        lies(due, "2;019;l90", 108, 512);
        lies(due, "2;019;l90", 112, 0);
    }

    static void p06_person_liesOfAWomanStandTogether(Due due) {
        // 1 yard is 1 hop with 0 to 2 lies (1, 3, 5 yards), 2 hops with 3 or 4 (7, 9)
        lies(due, "2;011;w00", 1, 1 + 2 + 4);
        lies(due, "2;011;w00", 2, 8 + 16);
        lies(due, "2;011;w00", 4, 256 + 512);
        lies(due, "2;011;w00", 0, 0);
        lies(due, "2;011;w00", 5, 0);
    }

    static void p06_person_liesTogetherAreRoundedUp(Due due) {
        // the other one has 2 yards: 1 to 19 yards of his own make 2 to 11
        ShameYards x = of("2;011;c00,c10");
        x.see(0, 0, 1, 2);
        due.is("person(0, 5)", x.person(0, 5), 1);
        x.forget();
        x.see(0, 0, 1, 11);
        due.is("person(0, 5)", x.person(0, 5), 512);
        x.forget();
        x.see(0, 0, 1, 12);
        due.is("person(0, 5)", x.person(0, 5), 0);
    }

    static void p06_person_liesByAllThatIsSeen(Due due) {
        ShameYards x = of("2;011,013;w00");
        x.see(0, 0, -1, 2);
        due.is("person(0, 5), 3 or 4", x.person(0, 5), 8 + 16);
        x.see(0, 1, -1, 2);
        due.is("person(0, 5), 3 alone", x.person(0, 5), 8);
        x.see(0, 1, -1, 3);
        due.is("person(0, 5), none", x.person(0, 5), 0);
    }

    static void p06_person_liesByTheSixthSightToo(Due due) {
        ShameYards x = of("2;011;c00");
        times(5, () -> x.see(0, 0, -1, 3));
        due.is("person(0, 5)", x.person(0, 5), 2);
        x.see(0, 0, -1, 5);
        due.is("person(0, 5)", x.person(0, 5), 0);
    }

    static void p06_person_liesNotByWhatIsSeenOfOthers(Due due) {
        ShameYards x = of("2;011;c00,c00");
        x.see(0, 0, -1, 5);
        x.see(0, 0, 1, 3);
        due.is("person(1, 5)", x.person(1, 5), 1023);
        due.is("person(0, 5)", x.person(0, 5), 4);
    }

    static void p06_person_liesAllElseAsItIs(Due due) {
        ShameYards x = of("2;015;c20,c00");
        x.see(0, 0, 1, 8);
        due.is("person(0, 5), 11 and 5 yards", x.person(0, 5), 4);
        x.lie(1);
        x.lie(1);
        due.is("person(0, 5), the other one lies", x.person(0, 5), 1);
        x.lie(0);
        due.is("person(0, 5), not by what he told", x.person(0, 5), 1);
        x.confess(0);
        x.confess(0);
        due.is("person(0, 5), with no deeds", x.person(0, 5), 2);
        x.carpet(0, 4);
        due.is("person(0, 5), on a carpet", x.person(0, 5), 4);
    }

    // "ASK ... so that fewest of these are left at worst, by his STEPS: of like ones the least; none,
    // if there are none."

    static void p06_person_askNoneIfNoLiesCanBe(Due due) {
        ShameYards x = of("2;011;c00,c00");
        x.see(0, 0, -1, 120);
        due.is("person(0, 6)", x.person(0, 6), NONE);
        due.is("person(1, 6)", x.person(1, 6), 0);
    }

    static void p06_person_askTheLeastIfOneIsLeft(Due due) {
        ShameYards x = of("2;015,011;w00,c00");
        x.see(0, 0, -1, 1);
        due.is("person(0, 5)", x.person(0, 5), 1);
        due.is("person(0, 6)", x.person(0, 6), 0);
    }

    static void p06_person_askTheLeastOfLikeOnes(Due due) {
        due.is("person(0, 6)", of("2;011,019,015;c00,w00,l99").person(0, 6), 0);
    }

    static void p06_person_askTheLastOfSevenPassages(Due due) {
        // 1 or 2 lies: 7 or 9 yards of length 5 are 2 hops, 4 or 6 of length 2 are 1 or 2
        ShameYards x = of("2;015,015,015,015,015,015,012;w00,c00");
        x.see(0, 0, -1, 2);
        due.is("person(0, 5)", x.person(0, 5), 2 + 4);
        due.is("person(0, 6)", x.person(0, 6), 60);
    }

    static void p06_person_askWhatLeavesFewest(Due due) {
        ShameYards x = of("2;011,012;w00");
        due.is("person(0, 6), each leaves three at worst", x.person(0, 6), 0);
        // 3 or 4 lies: 7 or 9 yards are 2 hops both, 8 or 10 too, 9 or 11 are not
        x.see(0, 0, -1, 2);
        due.is("person(0, 5)", x.person(0, 5), 8 + 16);
        due.is("person(0, 6), each leaves two", x.person(0, 6), 0);
        x.carpet(1, 3);
        due.is("person(0, 6), the second leaves one", x.person(0, 6), 10);
    }

    static void p06_person_askWithLies0AmongThem(Due due) {
        // 0, 1 or 2 lies: 1, 3 or 5 yards are 1 hop; 5 are 1, 7 and 9 are 2
        ShameYards x = of("2;011,015;w00");
        x.see(0, 0, -1, 1);
        due.is("person(0, 5)", x.person(0, 5), 1 + 2 + 4);
        due.is("person(0, 6)", x.person(0, 6), 10);
    }

    static void p06_person_askWithLies9AmongThem(Due due) {
        // 8 or 9 lies: 17 or 19 yards are 4 hops; 19 are 4, 21 are 5
        ShameYards x = of("2;011,013;w00");
        x.see(0, 0, -1, 4);
        due.is("person(0, 5)", x.person(0, 5), 256 + 512);
        due.is("person(0, 6)", x.person(0, 6), 10);
    }

    static void p06_person_askByTheWorstAlone(Due due) {
        // 2 or 3 hops of hers, with the clerk's 1 step, are 2: 3 to 7 lies; their hops are alike for
        // 2 and 3 of them by length 1, for 1, 3 and 1 by length 3, for 2, 2 and 1 by length 2
        ShameYards x = of("2;011,013,012;w00,c00");
        x.see(0, 0, 1, 2);
        due.is("person(0, 5)", x.person(0, 5), 8 + 16 + 32 + 64 + 128);
        due.is("person(0, 6)", x.person(0, 6), 20);
    }

    static void p06_person_askWhereverTheyAre(Due due) {
        ShameYards x = of("3;015,122;w00,c00");
        x.see(0, 0, -1, 2);
        due.is("person(0, 6), a passage from where none is", x.person(0, 6), 10);
        x.go(1, 0, -1);
        due.is("person(0, 6)", x.person(0, 6), 10);
    }

    // "A PERSON taken as a KIND: its number; NONE: it is none such. UNKNOWN; OUTSIDE."

    static void p07_as_allAreClerks(Due due) {
        ShameYards x = of("2;011;l00,w00,m00,b00,c00");
        for (int person = 0; person < 5; person++) {
            due.is("as(" + person + ", 0)", x.as(person, 0), person);
        }
    }

    static void p07_as_aLampIsAMinisterToo(Due due) {
        ShameYards x = of("2;011;c00,l00");
        due.is("as(1, 4)", x.as(1, 4), 1);
        due.is("as(1, 2)", x.as(1, 2), 1);
        due.is("as(1, 1)", x.as(1, 1), NONE);
        due.is("as(1, 3)", x.as(1, 3), NONE);
    }

    static void p07_as_aMinisterIsNoLamp(Due due) {
        ShameYards x = of("2;011;c00,m00");
        due.is("as(1, 2)", x.as(1, 2), 1);
        due.is("as(1, 4)", x.as(1, 4), NONE);
    }

    static void p07_as_aClerkIsNothingElse(Due due) {
        ShameYards x = of(SMALLEST);
        for (int kind = 1; kind <= 4; kind++) {
            due.is("as(0, " + kind + ")", x.as(0, kind), NONE);
        }
    }

    static void p07_as_boysAndWomenAreTheirOwn(Due due) {
        ShameYards x = of("2;011;b00,w00");
        int[][] told = {{0, 0, NONE, NONE, NONE}, {1, NONE, NONE, 1, NONE}};
        for (int person = 0; person < 2; person++) {
            for (int kind = 0; kind < 5; kind++) {
                due.is("as(" + person + ", " + kind + ")", x.as(person, kind), told[person][kind]);
            }
        }
    }

    static void p07_as_firstBeyondIsUnknown(Due due) {
        for (int people = 1; people <= 5; people++) {
            ShameYards x = ofPeople(people);
            due.is("as, the last of " + people, x.as(people - 1, 0), people - 1);
            each(due, "as(%d, 0) of " + people, beyond(people), who -> x.as(who, 0), UNKNOWN);
        }
    }

    static void p07_as_kindBesideIsOutside(Due due) {
        ShameYards x = of("2;011;l00");
        due.is("as(0, 0)", x.as(0, 0), 0);
        due.is("as(0, 4)", x.as(0, 4), 0);
        each(due, "as(0, %d)", beyond(5), kind -> x.as(0, kind), OUTSIDE);
    }

    static void p07_as_unknownIsToldAheadOfOutside(Due due) {
        ShameYards x = ofPeople(1);
        due.is("as(1, 5)", x.as(1, 5), UNKNOWN);
        due.is("as(-1, -1)", x.as(-1, -1), UNKNOWN);
    }

    static void p07_as_changesNothing(Due due) {
        Twins.unchanged(due, "as(3, 0)", x -> x.as(3, 0), UNKNOWN);
        Twins.unchanged(due, "as(0, 5)", x -> x.as(0, 5), OUTSIDE);
        Twins.unchanged(due, "as(0, 1)", x -> x.as(0, 1), NONE);
        Twins.unchanged(due, "as(2, 2)", x -> x.as(2, 2), 2);
    }

    // "Of a PASSAGE: what = 0, 1 the ROOMS at its ends, as told, 2 LENGTH. UNKNOWN; OUTSIDE."

    static void p08_passage_endsAsTold(Due due) {
        ShameYards x = of("5;401,044;c00");
        due.is("passage(0, 0)", x.passage(0, 0), 4);
        due.is("passage(0, 1)", x.passage(0, 1), 0);
        due.is("passage(1, 0)", x.passage(1, 0), 0);
        due.is("passage(1, 1)", x.passage(1, 1), 4);
    }

    static void p08_passage_length1And9(Due due) {
        ShameYards x = of("2;011,019;c00");
        due.is("passage(0, 2)", x.passage(0, 2), 1);
        due.is("passage(1, 2)", x.passage(1, 2), 9);
    }

    static void p08_passage_lastOneIsKnown(Due due) {
        for (int passages = 1; passages <= 7; passages++) {
            due.is("passage, the last of " + passages, ofPassages(passages).passage(passages - 1, 1), 1);
        }
    }

    static void p08_passage_firstBeyondIsUnknown(Due due) {
        for (int passages = 1; passages <= 7; passages++) {
            ShameYards x = ofPassages(passages);
            each(due, "passage(%d, 0) of " + passages, beyond(passages), which -> x.passage(which, 0), UNKNOWN);
        }
    }

    static void p08_passage_whatBesideIsOutside(Due due) {
        ShameYards x = ofPassages(7);
        each(due, "passage(0, %d)", beyond(3), what -> x.passage(0, what), OUTSIDE);
        each(due, "passage(6, %d)", beyond(3), what -> x.passage(6, what), OUTSIDE);
    }

    static void p08_passage_unknownIsToldAheadOfOutside(Due due) {
        ShameYards x = ofPassages(1);
        due.is("passage(1, 3)", x.passage(1, 3), UNKNOWN);
        due.is("passage(-1, -1)", x.passage(-1, -1), UNKNOWN);
    }

    static void p08_passage_changesNothing(Due due) {
        Twins.unchanged(due, "passage(4, 0)", x -> x.passage(4, 0), UNKNOWN);
        Twins.unchanged(due, "passage(0, 3)", x -> x.passage(0, 3), OUTSIDE);
        Twins.unchanged(due, "passage(1, 2)", x -> x.passage(1, 2), 8);
    }
}
