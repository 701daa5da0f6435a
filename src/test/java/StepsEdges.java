/** How many STEPS a PASSAGE has for whom, alone or by two: promise 9. */
final class StepsEdges extends Edges {
    private static void alone(Due due, String kindDeedsLies, int length, int steps) {
        due.is(kindDeedsLies + " through " + length,
                of("2;01" + length + ";" + kindDeedsLies).steps(0, 0, -1), steps);
    }

    private static void both(Due due, String people, int length, int steps) {
        ShameYards x = of("2;01" + length + ";" + people);
        due.is(people + " through " + length, x.steps(0, 0, 1), steps);
        due.is(people + " through " + length + ", of the other one", x.steps(1, 0, 0), steps);
    }

    // "For a CLERK a PASSAGE has as many STEPS as its LENGTH, his DEEDS, and twice his LIES together"

    static void p09_steps_clerkAtFewestAndMost(Due due) {
        alone(due, "c00", 1, 1);
        alone(due, "c99", 9, 36);
    }

    static void p09_steps_clerkWithAClearConscienceInNine(Due due) {
        alone(due, "c00", 9, 9);
    }

    static void p09_steps_clerkByEachAlone(Due due) {
        alone(due, "c90", 1, 10);
        alone(due, "c09", 1, 19);
    }

    // "a BOY has half of that, rounded up"

    static void p09_steps_boyAtFewestAndMost(Due due) {
        alone(due, "b00", 1, 1);
        alone(due, "b99", 9, 18);
    }

    static void p09_steps_boyRoundedUp(Due due) {
        alone(due, "b00", 2, 1);
        alone(due, "b00", 3, 2);
        alone(due, "b00", 4, 2);
        alone(due, "b99", 8, 18);
        alone(due, "b99", 7, 17);
    }

    // "for a MINISTER his DEEDS count thrice"

    static void p09_steps_ministerAtFewestAndMost(Due due) {
        alone(due, "m00", 1, 1);
        alone(due, "m99", 9, 54);
    }

    static void p09_steps_ministerByEachAlone(Due due) {
        alone(due, "m10", 1, 4);
        alone(due, "m01", 1, 3);
    }

    // "a LAMP has twice what it would be for a MINISTER"

    static void p09_steps_lampAtFewestAndMost(Due due) {
        alone(due, "l00", 1, 2);
        alone(due, "l99", 9, 108);
    }

    static void p09_steps_lampByEachAlone(Due due) {
        alone(due, "l10", 1, 8);
        alone(due, "l01", 1, 6);
    }

    // "a WOMAN has 1 STEP for each 5 that it would be for a CLERK, rounded up"

    static void p09_steps_womanAtFewestAndMost(Due due) {
        alone(due, "w00", 1, 1);
        alone(due, "w99", 9, 8);
    }

    static void p09_steps_womanRoundedUp(Due due) {
        alone(due, "w00", 4, 1);
        alone(due, "w00", 5, 1);
        alone(due, "w00", 6, 2);
        alone(due, "w10", 9, 2);
        alone(due, "w01", 9, 3);
        alone(due, "w99", 8, 7);
    }

    // "Of two who go together each has half of what both have together, rounded up."

    static void p09_steps_twoAtFewestAndMost(Due due) {
        both(due, "c00,c00", 1, 1);
        both(due, "l99,l99", 9, 108);
    }

    static void p09_steps_twoRoundedUp(Due due) {
        both(due, "c00,c10", 1, 2);
        both(due, "c00,c20", 1, 2);
        both(due, "c00,l00", 3, 5);
        both(due, "c00,l99", 9, 59);
    }

    static void p09_steps_twoByWhatEachHasRoundedItself(Due due) {
        both(due, "b00,b00", 3, 2);
        both(due, "w00,w00", 6, 2);
        both(due, "w00,b00", 1, 1);
    }

    static void p09_steps_howeverFarApart(Due due) {
        ShameYards x = of("3;011,125;c00,c10");
        x.go(0, 0, -1);
        due.is("steps(0, 1, 1)", x.steps(0, 1, 1), 6);
        due.is("steps(1, 1, -1), a passage from elsewhere", x.steps(1, 1, -1), 6);
    }

    static void p09_steps_oneWhoIsTiredToo(Due due) {
        ShameYards x = of("2;019;l99,c00");
        times(84, () -> x.go(0, 0, -1));
        due.is("go(0, 0, -1)", x.go(0, 0, -1), FULL);
        due.is("steps(0, 0, -1)", x.steps(0, 0, -1), 108);
        due.is("steps(1, 0, 0)", x.steps(1, 0, 0), 59);
    }

    // "with another one (NONE: alone). UNKNOWN: person, passage, with (it may not be the same)."

    static void p09_steps_minus1IsAlone(Due due) {
        ShameYards x = of("2;011;c00,c20");
        due.is("steps(0, 0, -1)", x.steps(0, 0, -1), 1);
        due.is("steps(1, 0, -1)", x.steps(1, 0, -1), 3);
        due.is("steps(1, 0, 0)", x.steps(1, 0, 0), 2);
    }

    static void p09_steps_lastPersonPassageAndWith(Due due) {
        ShameYards x = of(LARGEST);
        due.is("steps(4, 6, -1)", x.steps(4, 6, -1), 36);
        due.is("steps(3, 6, 4)", x.steps(3, 6, 4), 27);
        due.is("steps(0, 6, 4)", x.steps(0, 6, 4), 72);
    }

    static void p09_steps_personBeyondIsUnknown(Due due) {
        for (int people = 1; people <= 5; people++) {
            ShameYards x = ofPeople(people);
            each(due, "steps(%d, 0, -1) of " + people, beyond(people), who -> x.steps(who, 0, -1), UNKNOWN);
        }
    }

    static void p09_steps_passageBeyondIsUnknown(Due due) {
        for (int passages = 1; passages <= 7; passages++) {
            ShameYards x = ofPassages(passages);
            each(due, "steps(0, %d, -1) of " + passages, beyond(passages), way -> x.steps(0, way, -1), UNKNOWN);
        }
    }

    static void p09_steps_withBeyondIsUnknown(Due due) {
        for (int people = 1; people <= 5; people++) {
            ShameYards x = ofPeople(people);
            each(due, "steps(0, 0, %d) of " + people, beyondWith(people), with -> x.steps(0, 0, with), UNKNOWN);
        }
    }

    static void p09_steps_withTheSameIsUnknown(Due due) {
        ShameYards x = ofPeople(5);
        for (int person = 0; person < 5; person++) {
            due.is("steps(" + person + ", 0, " + person + ")", x.steps(person, 0, person), UNKNOWN);
        }
    }

    static void p09_steps_changesNothing(Due due) {
        Twins.unchanged(due, "steps(3, 0, -1)", x -> x.steps(3, 0, -1), UNKNOWN);
        Twins.unchanged(due, "steps(0, 4, -1)", x -> x.steps(0, 4, -1), UNKNOWN);
        Twins.unchanged(due, "steps(0, 0, 0)", x -> x.steps(0, 0, 0), UNKNOWN);
        Twins.unchanged(due, "steps(0, 1, -1)", x -> x.steps(0, 1, -1), 14);
        Twins.unchanged(due, "steps(0, 1, 2)", x -> x.steps(0, 1, 2), 60);
    }
}
