/** What is SEEN, and that it is forgotten: promises 19 and 20. */
final class SeenEdges extends Edges {
    // "It is SEEN: how much is."

    static void p19_see_firstIs1(Due due) {
        ShameYards x = ofPeople(1);
        due.is("see(0, 0, -1, 1)", x.see(0, 0, -1, 1), 1);
        due.is("count(8)", x.count(8), 1);
    }

    static void p19_see_ofWhomeverItIsCounted(Due due) {
        ShameYards x = ofPeople(2);
        due.is("see(0, 0, -1, 1)", x.see(0, 0, -1, 1), 1);
        due.is("see(1, 0, -1, 1)", x.see(1, 0, -1, 1), 2);
        due.is("see(1, 0, 0, 1)", x.see(1, 0, 0, 1), 3);
    }

    static void p19_see_theSameAgainIsCounted(Due due) {
        ShameYards x = ofPeople(1);
        x.see(0, 0, -1, 1);
        due.is("see(0, 0, -1, 1)", x.see(0, 0, -1, 1), 2);
    }

    static void p19_see_whatCannotBeIsTaken(Due due) {
        ShameYards x = of("2;011;c90");
        due.is("see(0, 0, -1, 0)", x.see(0, 0, -1, 0), 1);
        due.is("person(0, 5)", x.person(0, 5), 0);
    }

    static void p19_see_whereverTheyAre(Due due) {
        ShameYards x = of("3;011,121;c00,c00");
        due.is("see(0, 1, -1, 1), a passage from elsewhere", x.see(0, 1, -1, 1), 1);
        x.go(1, 0, -1);
        due.is("see(0, 0, 1, 1), one who is elsewhere", x.see(0, 0, 1, 1), 2);
    }

    static void p19_see_nobodyGoesByIt(Due due) {
        ShameYards x = ofPeople(2);
        x.see(0, 0, 1, 1);
        due.is("person(0, 3)", x.person(0, 3), 0);
        due.is("count(5)", x.count(5), 0);
        due.is("count(6)", x.count(6), 0);
        due.is("person(0, 2)", x.person(0, 2), 0);
    }

    // "UNKNOWN: person, passage, with (not the same; NONE: alone)"

    static void p19_see_lastPersonPassageAndWith(Due due) {
        ShameYards x = of(LARGEST);
        due.is("see(4, 6, -1, 18)", x.see(4, 6, -1, 18), 1);
        due.is("person(4, 5)", x.person(4, 5), 1);
        due.is("see(3, 6, 4, 23)", x.see(3, 6, 4, 23), 2);
        due.is("person(3, 5), 36 and 9 or 10", x.person(3, 5), 1 + 2);
    }

    static void p19_see_personBeyondIsUnknown(Due due) {
        for (int people = 1; people <= 5; people++) {
            ShameYards x = ofPeople(people);
            each(due, "see(%d, 0, -1, 1) of " + people, beyond(people), who -> x.see(who, 0, -1, 1), UNKNOWN);
            due.is("count(8)", x.count(8), 0);
        }
    }

    static void p19_see_passageBeyondIsUnknown(Due due) {
        for (int passages = 1; passages <= 7; passages++) {
            ShameYards x = ofPassages(passages);
            each(due, "see(0, %d, -1, 1) of " + passages, beyond(passages), way -> x.see(0, way, -1, 1), UNKNOWN);
            due.is("count(8)", x.count(8), 0);
        }
    }

    static void p19_see_withBeyondIsUnknown(Due due) {
        for (int people = 1; people <= 5; people++) {
            ShameYards x = ofPeople(people);
            each(due, "see(0, 0, %d, 1) of " + people, beyondWith(people), with -> x.see(0, 0, with, 1), UNKNOWN);
            due.is("count(8)", x.count(8), 0);
        }
    }

    static void p19_see_withTheSameIsUnknown(Due due) {
        ShameYards x = ofPeople(5);
        for (int person = 0; person < 5; person++) {
            due.is("see(" + person + ", 0, " + person + ", 1)", x.see(person, 0, person, 1), UNKNOWN);
        }
    }

    // "OUTSIDE: steps (0 to 120)"

    static void p19_see_steps0AreTheFewest(Due due) {
        due.is("see(0, 0, -1, 0)", ofPeople(1).see(0, 0, -1, 0), 1);
    }

    static void p19_see_steps120AreTheMost(Due due) {
        due.is("see(0, 0, -1, 120)", ofPeople(1).see(0, 0, -1, 120), 1);
    }

    static void p19_see_stepsBesideAreOutside(Due due) {
        ShameYards x = ofPeople(2);
        int[] wrong = {-1, 121, -2, 122, LEAST, MOST, 65536, 256};
        each(due, "see(0, 0, -1, %d)", wrong, steps -> x.see(0, 0, -1, steps), OUTSIDE);
        each(due, "see(0, 0, 1, %d)", wrong, steps -> x.see(0, 0, 1, steps), OUTSIDE);
        due.is("count(8)", x.count(8), 0);
    }

    // "SEEN (6 at most)"; "FULL"

    static void p19_see_the6thIsTheLast(Due due) {
        ShameYards x = ofPeople(1);
        times(5, () -> x.see(0, 0, -1, 1));
        due.is("see(0, 0, -1, 1), the 6th", x.see(0, 0, -1, 1), 6);
        due.is("count(8)", x.count(8), 6);
    }

    static void p19_see_the7thIsFull(Due due) {
        ShameYards x = ofPeople(2);
        times(6, () -> x.see(0, 0, -1, 1));
        due.is("see(0, 0, -1, 3), the 7th", x.see(0, 0, -1, 3), FULL);
        due.is("see(1, 0, 0, 1), of another one", x.see(1, 0, 0, 1), FULL);
        due.is("count(8)", x.count(8), 6);
        due.is("person(0, 5)", x.person(0, 5), 1);
        due.is("person(1, 5)", x.person(1, 5), 1023);
    }

    static void p19_see_isTakenAgainBehindForget(Due due) {
        ShameYards x = ofPeople(1);
        times(7, () -> x.see(0, 0, -1, 1));
        x.forget();
        due.is("see(0, 0, -1, 3)", x.see(0, 0, -1, 3), 1);
        due.is("person(0, 5)", x.person(0, 5), 2);
    }

    // "of several the first as told by each call"; "they change nothing"

    static void p19_see_unknownIsToldAheadOfOutside(Due due) {
        ShameYards x = ofPeople(2);
        due.is("see(2, 0, -1, 121)", x.see(2, 0, -1, 121), UNKNOWN);
        due.is("see(0, 1, -1, -1)", x.see(0, 1, -1, -1), UNKNOWN);
        due.is("see(0, 0, 0, 121)", x.see(0, 0, 0, 121), UNKNOWN);
    }

    static void p19_see_unknownAndOutsideAreToldAheadOfFull(Due due) {
        ShameYards x = ofPeople(2);
        times(6, () -> x.see(0, 0, -1, 1));
        due.is("see(2, 0, -1, 1)", x.see(2, 0, -1, 1), UNKNOWN);
        due.is("see(0, 1, -1, 1)", x.see(0, 1, -1, 1), UNKNOWN);
        due.is("see(0, 0, 2, 1)", x.see(0, 0, 2, 1), UNKNOWN);
        due.is("see(0, 0, -1, 121)", x.see(0, 0, -1, 121), OUTSIDE);
        due.is("see(0, 0, -1, -1)", x.see(0, 0, -1, -1), OUTSIDE);
    }

    static void p19_see_refusedChangesNothing(Due due) {
        Twins.unchanged(due, "see(3, 0, -1, 1)", x -> x.see(3, 0, -1, 1), UNKNOWN);
        Twins.unchanged(due, "see(0, 4, -1, 1)", x -> x.see(0, 4, -1, 1), UNKNOWN);
        Twins.unchanged(due, "see(0, 0, 0, 1)", x -> x.see(0, 0, 0, 1), UNKNOWN);
        Twins.unchanged(due, "see(0, 0, -1, 121)", x -> x.see(0, 0, -1, 121), OUTSIDE);
        Twins.unchanged(due, "see(0, 0, -1, -1)", x -> x.see(0, 0, -1, -1), OUTSIDE);
        Twins.unchanged(due, "see(0, 0, -1, 1), the 7th", x -> {
            Twins.lively(x);
            times(3, () -> x.see(2, 0, 1, 50));
        }, x -> x.see(0, 0, -1, 1), FULL);
    }

    // "Nothing is SEEN any more: how much was."

    static void p20_forget_nothingIs0(Due due) {
        ShameYards x = ofPeople(1);
        due.is("forget()", x.forget(), 0);
        due.is("count(8)", x.count(8), 0);
    }

    static void p20_forget_oneIs1(Due due) {
        ShameYards x = ofPeople(1);
        x.see(0, 0, -1, 1);
        due.is("forget()", x.forget(), 1);
        due.is("count(8)", x.count(8), 0);
    }

    static void p20_forget_sixAre6(Due due) {
        ShameYards x = ofPeople(1);
        times(7, () -> x.see(0, 0, -1, 1));
        due.is("forget()", x.forget(), 6);
        due.is("count(8)", x.count(8), 0);
        due.is("person(0, 5)", x.person(0, 5), 1023);
        due.is("person(0, 6)", x.person(0, 6), 0);
    }

    static void p20_forget_againIs0(Due due) {
        ShameYards x = ofPeople(1);
        x.see(0, 0, -1, 1);
        x.forget();
        due.is("forget()", x.forget(), 0);
    }

    static void p20_forget_ofEverybody(Due due) {
        ShameYards x = ofPeople(2);
        x.see(0, 0, -1, 1);
        x.see(1, 0, 0, 1);
        due.is("forget()", x.forget(), 2);
        due.is("person(0, 5)", x.person(0, 5), 1023);
        due.is("person(1, 5)", x.person(1, 5), 1023);
    }

    static void p20_forget_noMinistryIs0(Due due) {
        due.is("forget()", new ShameYards().forget(), 0);
    }

    static void p20_forget_leavesAllElse(Due due) {
        ShameYards x = new ShameYards();
        ShameYards y = new ShameYards();
        Twins.lively(x);
        Twins.lively(y);
        due.is("forget()", x.forget(), 3);
        x.see(0, 0, -1, 9);
        x.see(1, 0, 2, 50);
        x.see(2, 0, 0, 7);
        due.is("digest()", x.digest(), y.digest());
    }

    static void p20_forget_whatAnImageKeepsStays(Due due) {
        ShameYards x = ofPeople(1);
        x.see(0, 0, -1, 3);
        x.image();
        x.forget();
        x.restore();
        due.is("count(8)", x.count(8), 1);
        due.is("person(0, 5)", x.person(0, 5), 2);
    }
}
