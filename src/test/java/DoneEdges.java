/** What is done: promises 10 to 14. */
final class DoneEdges extends Edges {
    // "One goes through a PASSAGE, with another one (NONE: alone): how many STEPS he has."

    static void p10_go_aloneMovesNobodyElse(Due due) {
        ShameYards x = of("2;013;c00,c00");
        due.is("go(0, 0, -1)", x.go(0, 0, -1), 3);
        due.is("person(0, 3)", x.person(0, 3), 1);
        due.is("person(1, 3)", x.person(1, 3), 0);
        due.is("person(0, 4)", x.person(0, 4), 3);
        due.is("person(1, 4)", x.person(1, 4), 0);
        due.is("count(6)", x.count(6), 0);
    }

    static void p10_go_togetherBothHaveTheSame(Due due) {
        ShameYards x = of("2;011;c00,c10,c00");
        due.is("go(0, 0, 1)", x.go(0, 0, 1), 2);
        for (int person = 0; person < 2; person++) {
            due.is("person(" + person + ", 3)", x.person(person, 3), 1);
            due.is("person(" + person + ", 4)", x.person(person, 4), 2);
        }
        due.is("person(2, 3)", x.person(2, 3), 0);
        due.is("count(5)", x.count(5), 4);
        due.is("count(6), both are one time", x.count(6), 1);
    }

    static void p10_go_stepsAddUp(Due due) {
        ShameYards x = of("2;013;c00");
        x.go(0, 0, -1);
        x.go(0, 0, -1);
        x.carpet(0, 9);
        x.go(0, 0, -1);
        due.is("person(0, 4)", x.person(0, 4), 3 + 3 + 9);
    }

    // "Who is in a ROOM may go through a PASSAGE that ends there, from either end to the other one"

    static void p10_go_fromEitherEnd(Due due) {
        ShameYards x = of("5;401,341;c00");
        due.is("go(0, 0, -1), from its second end", x.go(0, 0, -1), 1);
        due.is("person(0, 3)", x.person(0, 3), 4);
        due.is("go(0, 1, -1), from a second end", x.go(0, 1, -1), 1);
        due.is("person(0, 3)", x.person(0, 3), 3);
        due.is("go(0, 1, -1), from a first end", x.go(0, 1, -1), 1);
        due.is("person(0, 3)", x.person(0, 3), 4);
        due.is("go(0, 0, -1), from its first end", x.go(0, 0, -1), 1);
        due.is("person(0, 3)", x.person(0, 3), 0);
    }

    // "UNKNOWN: person, passage, with (not the same)"

    static void p10_go_lastPersonPassageAndWith(Due due) {
        ShameYards x = of("2;011,011,011,011,011,011,012;c00,c00,c00,c00,c00");
        due.is("go(4, 6, -1)", x.go(4, 6, -1), 2);
        due.is("person(4, 3)", x.person(4, 3), 1);
        due.is("go(4, 6, -1)", x.go(4, 6, -1), 2);
        due.is("go(0, 6, 4)", x.go(0, 6, 4), 2);
        due.is("person(4, 4)", x.person(4, 4), 6);
    }

    static void p10_go_personBeyondIsUnknown(Due due) {
        for (int people = 1; people <= 5; people++) {
            ShameYards x = ofPeople(people);
            each(due, "go(%d, 0, -1) of " + people, beyond(people), who -> x.go(who, 0, -1), UNKNOWN);
        }
    }

    static void p10_go_passageBeyondIsUnknown(Due due) {
        for (int passages = 1; passages <= 7; passages++) {
            ShameYards x = ofPassages(passages);
            each(due, "go(0, %d, -1) of " + passages, beyond(passages), way -> x.go(0, way, -1), UNKNOWN);
        }
    }

    static void p10_go_withBeyondIsUnknown(Due due) {
        for (int people = 1; people <= 5; people++) {
            ShameYards x = ofPeople(people);
            each(due, "go(0, 0, %d) of " + people, beyondWith(people), with -> x.go(0, 0, with), UNKNOWN);
        }
    }

    static void p10_go_withTheSameIsUnknown(Due due) {
        ShameYards x = ofPeople(5);
        for (int person = 0; person < 5; person++) {
            due.is("go(" + person + ", 0, " + person + ")", x.go(person, 0, person), UNKNOWN);
        }
    }

    static void p10_go_unknownChangesNothing(Due due) {
        Twins.unchanged(due, "go(3, 0, -1)", x -> x.go(3, 0, -1), UNKNOWN);
        Twins.unchanged(due, "go(-1, 0, -1)", x -> x.go(-1, 0, -1), UNKNOWN);
        Twins.unchanged(due, "go(0, 4, -1)", x -> x.go(0, 4, -1), UNKNOWN);
        Twins.unchanged(due, "go(0, 0, 3)", x -> x.go(0, 0, 3), UNKNOWN);
        Twins.unchanged(due, "go(0, 0, 0)", x -> x.go(0, 0, 0), UNKNOWN);
    }

    // "STATE: it does not end where he is, or the other one is elsewhere"

    static void p10_go_passageEndsElsewhere(Due due) {
        ShameYards x = of("3;011,121;c00,c00");
        due.is("go(0, 1, -1)", x.go(0, 1, -1), STATE);
        due.is("go(0, 1, 1)", x.go(0, 1, 1), STATE);
        x.go(0, 0, -1);
        due.is("go(0, 1, -1), it ends there now", x.go(0, 1, -1), 1);
        due.is("go(0, 0, -1), it does not any more", x.go(0, 0, -1), STATE);
    }

    static void p10_go_otherOneIsAtTheOtherEnd(Due due) {
        ShameYards x = of("2;011;c00,c00");
        x.go(1, 0, -1);
        due.is("go(0, 0, 1)", x.go(0, 0, 1), STATE);
        due.is("go(1, 0, 0)", x.go(1, 0, 0), STATE);
        x.go(0, 0, -1);
        due.is("go(0, 0, 1), both are there now", x.go(0, 0, 1), 1);
    }

    static void p10_go_otherOneIsFarOff(Due due) {
        ShameYards x = of("3;011,121;c00,c00");
        x.go(1, 0, -1);
        x.go(1, 1, -1);
        due.is("go(0, 0, 1)", x.go(0, 0, 1), STATE);
        due.is("go(1, 1, 0)", x.go(1, 1, 0), STATE);
    }

    static void p10_go_stateChangesNothing(Due due) {
        Twins.unchanged(due, "go(2, 1, -1)", x -> x.go(2, 1, -1), STATE);
        Twins.unchanged(due, "go(0, 0, 2)", x -> x.go(0, 0, 2), STATE);
        Twins.unchanged(due, "go(0, 1, 1)", x -> x.go(0, 1, 1), STATE);
    }

    static void p10_go_unknownIsToldAheadOfState(Due due) {
        ShameYards x = of("3;011,121;c00,c00");
        due.is("go(0, 1, 2)", x.go(0, 1, 2), UNKNOWN);
        due.is("go(0, 1, 0)", x.go(0, 1, 0), UNKNOWN);
        due.is("go(0, 1, -2)", x.go(0, 1, -2), UNKNOWN);
    }

    // "FULL: either took more than 9000 STEPS"

    /** PERSON 0 has taken 9000 STEPS, is in ROOM 0 and has 1 STEP alone; so have the others. */
    private static void at9000(ShameYards x) {
        Typing.type(x, "3;019,121;m90,c00,c00");
        x.ministry();
        times(250, () -> x.go(0, 0, -1)); // of 36 each
        times(9, () -> x.confess(0));
        x.carpet(0, 1);
    }

    private static ShameYards of9000() {
        ShameYards x = new ShameYards();
        at9000(x);
        return x;
    }

    /** PERSON 0 has taken 9001 STEPS and is in ROOM 1, where PERSON 1 is too. */
    private static void at9001(ShameYards x) {
        at9000(x);
        x.go(0, 0, -1);
        x.go(1, 0, -1);
    }

    private static ShameYards of9001() {
        ShameYards x = new ShameYards();
        at9001(x);
        return x;
    }

    static void p10_go_9000StepsAreNotMore(Due due) {
        ShameYards x = of9000();
        due.is("person(0, 4)", x.person(0, 4), 9000);
        due.is("go(0, 0, -1)", x.go(0, 0, -1), 1);
        due.is("person(0, 4)", x.person(0, 4), 9001);
    }

    static void p10_go_9001StepsAreFull(Due due) {
        ShameYards x = of9001();
        due.is("person(0, 4)", x.person(0, 4), 9001);
        due.is("go(0, 0, -1)", x.go(0, 0, -1), FULL);
        due.is("go(0, 0, 1), with one who took fewer", x.go(0, 0, 1), FULL);
    }

    static void p10_go_otherOneTook9000(Due due) {
        ShameYards x = of9000();
        due.is("go(1, 0, 0)", x.go(1, 0, 0), 1);
        due.is("person(0, 4)", x.person(0, 4), 9001);
    }

    static void p10_go_otherOneTook9001(Due due) {
        due.is("go(1, 0, 0)", of9001().go(1, 0, 0), FULL);
    }

    static void p10_go_aloneBesideOneWhoIsTired(Due due) {
        ShameYards x = of9001();
        due.is("go(1, 0, -1)", x.go(1, 0, -1), 1);
        due.is("go(1, 0, 2)", x.go(1, 0, 2), 1);
    }

    static void p10_go_9000TogetherAreNotFull(Due due) {
        ShameYards x = of("2;015;l99,l99");
        times(90, () -> x.go(0, 0, 1)); // of 100 each
        due.is("count(5)", x.count(5), 18000);
        due.is("go(0, 0, 1)", x.go(0, 0, 1), 100);
        due.is("go(0, 0, 1)", x.go(0, 0, 1), FULL);
        due.is("go(1, 0, 0)", x.go(1, 0, 0), FULL);
        due.is("count(6)", x.count(6), 91);
    }

    static void p10_go_fullChangesNothing(Due due) {
        Twins.unchanged(due, "go(0, 0, -1)", DoneEdges::at9001, x -> x.go(0, 0, -1), FULL);
        Twins.unchanged(due, "go(0, 0, 1)", DoneEdges::at9001, x -> x.go(0, 0, 1), FULL);
        Twins.unchanged(due, "go(1, 0, 0)", DoneEdges::at9001, x -> x.go(1, 0, 0), FULL);
    }

    static void p10_go_stateIsToldAheadOfFull(Due due) {
        ShameYards x = of9001();
        due.is("go(0, 0, 2), who is elsewhere", x.go(0, 0, 2), STATE);
        due.is("go(2, 0, 0), who is elsewhere", x.go(2, 0, 0), STATE);
        x.go(1, 1, -1);
        due.is("go(1, 1, 0), who is elsewhere", x.go(1, 1, 0), STATE);
        ShameYards y = of9000();
        y.go(0, 0, -1);
        due.is("go(0, 1, -1), it ends there", y.go(0, 1, -1), FULL);
        ShameYards z = of("3;019,121;l99,c00");
        times(84, () -> z.go(0, 0, -1));
        due.is("go(0, 0, -1)", z.go(0, 0, -1), FULL);
        due.is("go(0, 1, -1), it does not end there", z.go(0, 1, -1), STATE);
    }

    static void p10_go_unknownIsToldAheadOfFull(Due due) {
        ShameYards x = of9001();
        due.is("go(0, 2, -1)", x.go(0, 2, -1), UNKNOWN);
        due.is("go(0, 0, 0)", x.go(0, 0, 0), UNKNOWN);
        due.is("go(0, 0, 3)", x.go(0, 0, 3), UNKNOWN);
    }

    static void p10_go_freshAgainByImageOrMinistry(Due due) {
        ShameYards x = of9000();
        x.image();
        x.go(0, 0, -1);
        due.is("go(0, 0, -1)", x.go(0, 0, -1), FULL);
        x.restore();
        due.is("go(0, 0, -1), of 9000 again", x.go(0, 0, -1), 1);
        Typing.type(x, SMALLEST);
        x.ministry();
        due.is("go(0, 0, -1), of none", x.go(0, 0, -1), 1);
    }

    // "One does something: how many DEEDS he has. UNKNOWN; FULL: 9."

    static void p11_sin_from0(Due due) {
        ShameYards x = of("2;011;c05");
        due.is("sin(0)", x.sin(0), 1);
        due.is("person(0, 1)", x.person(0, 1), 1);
        due.is("person(0, 2)", x.person(0, 2), 5);
    }

    static void p11_sin_the9thIsTheLast(Due due) {
        ShameYards x = of("2;011;c80");
        due.is("sin(0)", x.sin(0), 9);
        due.is("person(0, 1)", x.person(0, 1), 9);
    }

    static void p11_sin_the10thIsFull(Due due) {
        ShameYards x = of("2;011;c90,c00");
        due.is("sin(0)", x.sin(0), FULL);
        due.is("person(0, 1)", x.person(0, 1), 9);
        due.is("sin(1)", x.sin(1), 1);
        x.confess(0);
        due.is("sin(0) behind confess(0)", x.sin(0), 9);
    }

    static void p11_sin_from0To9(Due due) {
        ShameYards x = of(SMALLEST);
        for (int deeds = 1; deeds <= 9; deeds++) {
            due.is("sin(0)", x.sin(0), deeds);
        }
        due.is("sin(0)", x.sin(0), FULL);
    }

    static void p11_sin_personBeyondIsUnknown(Due due) {
        for (int people = 1; people <= 5; people++) {
            ShameYards x = ofPeople(people);
            due.is("sin, the last of " + people, x.sin(people - 1), 1);
            each(due, "sin(%d) of " + people, beyond(people), x::sin, UNKNOWN);
            due.is("count(3)", x.count(3), 1);
        }
    }

    static void p11_sin_refusedChangesNothing(Due due) {
        Twins.unchanged(due, "sin(2)", x -> x.sin(2), FULL);
        Twins.unchanged(due, "sin(3)", x -> x.sin(3), UNKNOWN);
        Twins.unchanged(due, "sin(-1)", x -> x.sin(-1), UNKNOWN);
    }

    // "One tells a LIE: how many he told. UNKNOWN; FULL: 9."

    static void p12_lie_from0(Due due) {
        ShameYards x = of("2;011;c50");
        due.is("lie(0)", x.lie(0), 1);
        due.is("person(0, 2)", x.person(0, 2), 1);
        due.is("person(0, 1)", x.person(0, 1), 5);
    }

    static void p12_lie_the9thIsTheLast(Due due) {
        ShameYards x = of("2;011;c08");
        due.is("lie(0)", x.lie(0), 9);
        due.is("person(0, 2)", x.person(0, 2), 9);
    }

    static void p12_lie_the10thIsFull(Due due) {
        ShameYards x = of("2;011;c09,c00");
        due.is("lie(0)", x.lie(0), FULL);
        due.is("person(0, 2)", x.person(0, 2), 9);
        due.is("lie(1)", x.lie(1), 1);
    }

    static void p12_lie_from0To9(Due due) {
        ShameYards x = of(SMALLEST);
        for (int lies = 1; lies <= 9; lies++) {
            due.is("lie(0)", x.lie(0), lies);
        }
        due.is("lie(0)", x.lie(0), FULL);
    }

    static void p12_lie_personBeyondIsUnknown(Due due) {
        for (int people = 1; people <= 5; people++) {
            ShameYards x = ofPeople(people);
            due.is("lie, the last of " + people, x.lie(people - 1), 1);
            each(due, "lie(%d) of " + people, beyond(people), x::lie, UNKNOWN);
            due.is("count(4)", x.count(4), 1);
        }
    }

    static void p12_lie_refusedChangesNothing(Due due) {
        Twins.unchanged(due, "lie(2)", x -> x.lie(2), FULL);
        Twins.unchanged(due, "lie(3)", x -> x.lie(3), UNKNOWN);
        Twins.unchanged(due, "lie(-1)", x -> x.lie(-1), UNKNOWN);
    }

    // "One confesses: he has 1 DEED less: how many. UNKNOWN; STATE: he has none."

    static void p13_confess_from9(Due due) {
        ShameYards x = of("2;011;c95");
        due.is("confess(0)", x.confess(0), 8);
        due.is("person(0, 1)", x.person(0, 1), 8);
        due.is("person(0, 2)", x.person(0, 2), 5);
    }

    static void p13_confess_theLastDeed(Due due) {
        ShameYards x = of("2;011;c19");
        due.is("confess(0)", x.confess(0), 0);
        due.is("person(0, 1)", x.person(0, 1), 0);
    }

    static void p13_confess_noneIsState(Due due) {
        ShameYards x = of("2;011;c09,c10");
        due.is("confess(0), lies alone", x.confess(0), STATE);
        due.is("person(0, 1)", x.person(0, 1), 0);
        due.is("person(0, 2)", x.person(0, 2), 9);
        due.is("confess(1)", x.confess(1), 0);
        due.is("confess(1)", x.confess(1), STATE);
    }

    static void p13_confess_takesOffAYard(Due due) {
        ShameYards x = of("2;015;c90");
        due.is("steps(0, 0, -1)", x.steps(0, 0, -1), 14);
        x.confess(0);
        due.is("steps(0, 0, -1)", x.steps(0, 0, -1), 13);
    }

    static void p13_confess_personBeyondIsUnknown(Due due) {
        for (int people = 1; people <= 5; people++) {
            ShameYards x = of("2;011;c10" + ",c10".repeat(people - 1));
            due.is("confess, the last of " + people, x.confess(people - 1), 0);
            each(due, "confess(%d) of " + people, beyond(people), x::confess, UNKNOWN);
            due.is("count(3)", x.count(3), people - 1);
        }
    }

    static void p13_confess_refusedChangesNothing(Due due) {
        Twins.unchanged(due, "confess(0)", x -> {
            Twins.lively(x);
            x.confess(0);
            x.confess(0);
        }, x -> x.confess(0), STATE);
        Twins.unchanged(due, "confess(3)", x -> x.confess(3), UNKNOWN);
        Twins.unchanged(due, "confess(-1)", x -> x.confess(-1), UNKNOWN);
    }

    // "A carpet is laid: a PASSAGE has another LENGTH: which it had. UNKNOWN; OUTSIDE: length (1 to 9)."

    static void p14_carpet_length1IsTheLeast(Due due) {
        ShameYards x = of("2;019;c00");
        due.is("carpet(0, 1)", x.carpet(0, 1), 9);
        due.is("passage(0, 2)", x.passage(0, 2), 1);
    }

    static void p14_carpet_length9IsTheMost(Due due) {
        ShameYards x = of("2;011;c00");
        due.is("carpet(0, 9)", x.carpet(0, 9), 1);
        due.is("passage(0, 2)", x.passage(0, 2), 9);
    }

    static void p14_carpet_lengthBesideIsOutside(Due due) {
        ShameYards x = of("2;015;c00");
        int[] wrong = {0, 10, -1, 11, LEAST, MOST, 65536 + 5, 256 + 5};
        each(due, "carpet(0, %d)", wrong, length -> x.carpet(0, length), OUTSIDE);
        due.is("passage(0, 2)", x.passage(0, 2), 5);
    }

    static void p14_carpet_theSameLengthAgain(Due due) {
        ShameYards x = of("2;015;c00");
        due.is("carpet(0, 5)", x.carpet(0, 5), 5);
        due.is("passage(0, 2)", x.passage(0, 2), 5);
    }

    static void p14_carpet_otherPassagesStay(Due due) {
        ShameYards x = of("2;015,016,017;c00");
        x.carpet(1, 1);
        due.is("passage(0, 2)", x.passage(0, 2), 5);
        due.is("passage(2, 2)", x.passage(2, 2), 7);
        due.is("passage(1, 0)", x.passage(1, 0), 0);
    }

    static void p14_carpet_passageBeyondIsUnknown(Due due) {
        for (int passages = 1; passages <= 7; passages++) {
            ShameYards x = ofPassages(passages);
            due.is("carpet, the last of " + passages, x.carpet(passages - 1, 2), 1);
            each(due, "carpet(%d, 5) of " + passages, beyond(passages), way -> x.carpet(way, 5), UNKNOWN);
        }
    }

    static void p14_carpet_unknownIsToldAheadOfOutside(Due due) {
        ShameYards x = ofPassages(1);
        due.is("carpet(1, 0)", x.carpet(1, 0), UNKNOWN);
        due.is("carpet(-1, 10)", x.carpet(-1, 10), UNKNOWN);
    }

    static void p14_carpet_refusedChangesNothing(Due due) {
        Twins.unchanged(due, "carpet(0, 0)", x -> x.carpet(0, 0), OUTSIDE);
        Twins.unchanged(due, "carpet(0, 10)", x -> x.carpet(0, 10), OUTSIDE);
        Twins.unchanged(due, "carpet(4, 5)", x -> x.carpet(4, 5), UNKNOWN);
        Twins.unchanged(due, "carpet(-1, 5)", x -> x.carpet(-1, 5), UNKNOWN);
    }
}
