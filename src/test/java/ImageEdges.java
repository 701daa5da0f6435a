/** An IMAGE and what goes on from it: promises 22 and 23. */
final class ImageEdges extends Edges {
    // "An IMAGE is kept (one; the latest): how many STEPS all took. STATE: no MINISTRY."

    static void p22_image_noMinistryIsState(Due due) {
        ShameYards x = new ShameYards();
        due.is("image()", x.image(), STATE);
        due.is("restore()", x.restore(), STATE);
    }

    static void p22_image_noMinistryYetThoughThePageIsWhole(Due due) {
        ShameYards x = new ShameYards();
        Typing.type(x, SMALLEST);
        due.is("image()", x.image(), STATE);
        x.ministry();
        due.is("image()", x.image(), 0);
    }

    static void p22_image_stateChangesNothing(Due due) {
        Twins.unchanged(due, "image()", x -> Typing.type(x, "2;01"), ShameYards::image, STATE);
    }

    static void p22_image_atFirst0(Due due) {
        due.is("image()", of(LARGEST).image(), 0);
    }

    static void p22_image_stepsOfAll(Due due) {
        ShameYards x = of("2;013;c00,c00,c00");
        x.go(0, 0, 1);
        x.go(2, 0, -1);
        due.is("image()", x.image(), 9);
    }

    static void p22_image_theMostStepsOfAll(Due due) {
        ShameYards x = of("2;019;l99,l99,l99,l99");
        times(84, () -> x.go(0, 0, 1));
        times(84, () -> x.go(2, 0, 3));
        due.is("image()", x.image(), 4 * 84 * 108);
        due.is("count(5)", x.count(5), 4 * 84 * 108);
    }

    static void p22_image_changesNothing(Due due) {
        ShameYards x = new ShameYards();
        Twins.lively(x);
        long before = x.digest();
        due.is("image()", x.image(), 7 + 7 + 4);
        due.is("digest()", x.digest(), before);
    }

    static void p22_image_theLatestAlone(Due due) {
        ShameYards x = of("2;013;c00");
        x.image();
        x.go(0, 0, -1);
        due.is("image()", x.image(), 3);
        x.go(0, 0, -1);
        due.is("restore()", x.restore(), 3);
        due.is("person(0, 3)", x.person(0, 3), 1);
    }

    static void p22_image_isNotMovedByWhatIsDoneLater(Due due) {
        ShameYards x = new ShameYards();
        Twins.lively(x);
        x.image();
        long then = x.digest();
        x.go(0, 0, -1);
        x.sin(0);
        x.lie(0);
        x.carpet(0, 9);
        x.see(0, 0, 1, 8);
        x.restore();
        due.is("digest()", x.digest(), then);
    }

    // "STATE: none was kept, or there is another MINISTRY since."

    static void p23_restore_noneWasKept(Due due) {
        due.is("restore() with no ministry", new ShameYards().restore(), STATE);
        due.is("restore()", ofPeople(1).restore(), STATE);
    }

    static void p23_restore_noneWasKeptByARefusedImage(Due due) {
        ShameYards x = new ShameYards();
        x.image();
        Typing.type(x, SMALLEST);
        x.ministry();
        due.is("restore()", x.restore(), STATE);
    }

    static void p23_restore_anotherMinistrySince(Due due) {
        ShameYards x = of("2;013;c00");
        x.image();
        Typing.type(x, "2;015;b00");
        x.ministry();
        due.is("restore()", x.restore(), STATE);
        due.is("passage(0, 2)", x.passage(0, 2), 5);
    }

    static void p23_restore_anotherMinistryByTheSameText(Due due) {
        ShameYards x = of("2;013;c00");
        x.image();
        Typing.type(x, "2;013;c00");
        x.ministry();
        due.is("restore()", x.restore(), STATE);
    }

    static void p23_restore_aMinistryThatWasNotRead(Due due) {
        ShameYards x = of("2;013;c00");
        x.image();
        x.go(0, 0, -1);
        due.is("ministry()", x.ministry(), STATE);
        due.is("restore()", x.restore(), 0);
        Typing.type(x, "2;013;c0");
        due.is("ministry()", x.ministry(), STATE);
        due.is("restore()", x.restore(), 0);
        x.letter('0');
        due.is("restore(), it is not read yet", x.restore(), 0);
    }

    static void p23_restore_anImageOfTheOtherMinistry(Due due) {
        ShameYards x = of("2;013;c00");
        x.image();
        Typing.type(x, "2;015;b00");
        x.ministry();
        x.go(0, 0, -1);
        due.is("image()", x.image(), 3);
        x.go(0, 0, -1);
        due.is("restore()", x.restore(), 3);
        due.is("person(0, 0)", x.person(0, 0), 1);
    }

    static void p23_restore_stateChangesNothing(Due due) {
        Twins.unchanged(due, "restore(), none was kept", x -> {
            Typing.type(x, "3;014,125;c12,b30");
            x.ministry();
            x.go(0, 0, 1);
            x.see(0, 0, 1, 7);
            Typing.type(x, "2;01");
        }, ShameYards::restore, STATE);
        Twins.unchanged(due, "restore(), another ministry since", x -> {
            Twins.lively(x);
            Typing.type(x, "9;c34,l10");
            x.ministry();
            x.go(0, 0, 1);
        }, ShameYards::restore, STATE);
    }

    // "It goes on from the IMAGE: how many STEPS all took."

    static void p23_restore_stepsOfTheImage(Due due) {
        ShameYards x = of("2;013;c00,c00");
        x.go(0, 0, 1);
        x.image();
        x.go(0, 0, -1);
        due.is("restore()", x.restore(), 6);
        due.is("count(5)", x.count(5), 6);
    }

    static void p23_restore_atOnceChangesNothing(Due due) {
        ShameYards x = new ShameYards();
        Twins.lively(x);
        long before = x.digest();
        x.image();
        due.is("restore()", x.restore(), 18);
        due.is("digest()", x.digest(), before);
    }

    static void p23_restore_twiceAndMore(Due due) {
        ShameYards x = of("2;013;c00");
        x.image();
        times(3, () -> {
            x.go(0, 0, -1);
            due.is("restore()", x.restore(), 0);
            due.is("person(0, 3)", x.person(0, 3), 0);
        });
    }

    // "An IMAGE keeps DEEDS, LIES, ROOMS of all, LENGTHS, how many STEPS each took, how often any
    // went together, SEEN."

    private static ShameYards kept() {
        ShameYards x = of("3;013,125;c11,c22,c33");
        x.go(0, 0, 1);
        x.see(0, 0, -1, 6);
        x.image();
        return x;
    }

    static void p23_restore_deeds(Due due) {
        ShameYards x = kept();
        x.confess(0);
        x.sin(2);
        x.restore();
        due.is("person(0, 1)", x.person(0, 1), 1);
        due.is("person(1, 1)", x.person(1, 1), 2);
        due.is("person(2, 1)", x.person(2, 1), 3);
    }

    static void p23_restore_lies(Due due) {
        ShameYards x = kept();
        x.lie(0);
        x.lie(2);
        x.restore();
        due.is("person(0, 2)", x.person(0, 2), 1);
        due.is("person(1, 2)", x.person(1, 2), 2);
        due.is("person(2, 2)", x.person(2, 2), 3);
    }

    static void p23_restore_rooms(Due due) {
        ShameYards x = kept();
        x.go(0, 1, -1);
        x.go(1, 0, -1);
        x.go(2, 0, -1);
        x.restore();
        due.is("person(0, 3)", x.person(0, 3), 1);
        due.is("person(1, 3)", x.person(1, 3), 1);
        due.is("person(2, 3)", x.person(2, 3), 0);
    }

    static void p23_restore_lengths(Due due) {
        ShameYards x = kept();
        x.carpet(0, 9);
        x.carpet(1, 1);
        x.restore();
        due.is("passage(0, 2)", x.passage(0, 2), 3);
        due.is("passage(1, 2)", x.passage(1, 2), 5);
    }

    static void p23_restore_stepsThatEachTook(Due due) {
        ShameYards x = kept();
        x.go(0, 1, -1);
        x.go(2, 0, -1);
        x.restore();
        due.is("person(0, 4)", x.person(0, 4), 8);
        due.is("person(1, 4)", x.person(1, 4), 8);
        due.is("person(2, 4)", x.person(2, 4), 0);
    }

    static void p23_restore_howOftenAnyWentTogether(Due due) {
        ShameYards x = kept();
        x.go(0, 1, 1);
        x.go(0, 1, 1);
        due.is("count(6)", x.count(6), 3);
        x.restore();
        due.is("count(6)", x.count(6), 1);
    }

    static void p23_restore_whatMoreWasSeenIsGone(Due due) {
        ShameYards x = kept();
        x.see(0, 0, -1, 99);
        x.see(2, 0, -1, 99);
        x.restore();
        due.is("count(8)", x.count(8), 1);
        due.is("person(0, 5)", x.person(0, 5), 2);
        due.is("person(2, 5)", x.person(2, 5), 1023);
    }

    static void p23_restore_whatWasForgottenIsSeenAgain(Due due) {
        ShameYards x = kept();
        x.forget();
        x.see(2, 1, 1, 99);
        x.restore();
        due.is("count(8)", x.count(8), 1);
        due.is("person(0, 5)", x.person(0, 5), 2);
        due.is("person(2, 5)", x.person(2, 5), 1023);
    }

    static void p23_restore_sixThatWereSeen(Due due) {
        ShameYards x = of("2;011;w00,c00");
        x.see(1, 0, -1, 3);
        times(4, () -> x.see(0, 0, -1, 2));
        x.see(0, 0, 1, 2);
        x.image();
        x.forget();
        times(6, () -> x.see(0, 0, -1, 1));
        due.is("restore()", x.restore(), 0);
        due.is("count(8)", x.count(8), 6);
        due.is("person(0, 5)", x.person(0, 5), 8 + 16);
        due.is("person(1, 5)", x.person(1, 5), 2);
        due.is("see, the 7th", x.see(0, 0, -1, 2), FULL);
    }

    static void p23_restore_pageAndCountsAreNotAmongThem(Due due) {
        ShameYards x = kept();
        Typing.type(x, "2;0");
        x.send(0);
        x.send(0);
        x.restore();
        due.is("count(9)", x.count(9), 3);
        due.is("count(10)", x.count(10), 1);
        due.is("count(11)", x.count(11), 2);
    }
}
