/** How long an object is used, a new one, and THE PAGE: promises 1 to 3. */
final class PageEdges extends Edges {
    // "An object is used for at most 512 calls after it has been made"

    static void p00_use_the512thCallIsAnswered(Due due) {
        ShameYards x = of(SMALLEST); // 10 calls
        times(501, () -> x.go(0, 0, -1));
        due.is("the 512th call, count(5)", x.count(5), 501);
    }

    static void p00_use_512LettersAreTakenWithBlanks(Due due) {
        ShameYards x = new ShameYards();
        for (int call = 1; call < 512; call++) {
            if (call % 53 == 0) {
                due.is("blank()", x.blank(), 52);
            } else {
                due.is("letter(50)", x.letter('2'), call % 53);
            }
        }
        due.is("the 512th call, count(9)", x.count(9), 511 - 9 * 53);
    }

    static void p00_use_51MinistriesAreRead(Due due) {
        ShameYards x = new ShameYards();
        times(51, () -> {
            Typing.type(x, SMALLEST);
            due.is("ministry()", x.ministry(), 1);
        });
        due.is("count(10)", x.count(10), 51);
    }

    // "No MINISTRY."

    static void p01_newObject_everyCountIs0(Due due) {
        ShameYards x = new ShameYards();
        for (int what = 0; what <= 11; what++) {
            due.is("count(" + what + ")", x.count(what), 0);
        }
    }

    static void p01_newObject_noPersonIsKnown(Due due) {
        ShameYards x = new ShameYards();
        for (int person = 0; person < 5; person++) {
            due.is("person", x.person(person, 0), UNKNOWN);
            due.is("as", x.as(person, 0), UNKNOWN);
            due.is("steps", x.steps(person, 0, -1), UNKNOWN);
            due.is("go", x.go(person, 0, -1), UNKNOWN);
            due.is("sin", x.sin(person), UNKNOWN);
            due.is("lie", x.lie(person), UNKNOWN);
            due.is("confess", x.confess(person), UNKNOWN);
            due.is("far", x.far(person, 0, 0, 0), UNKNOWN);
            due.is("meet", x.meet(person, (person + 1) % 5, 1, 0), UNKNOWN);
            due.is("see", x.see(person, 0, -1, 1), UNKNOWN);
        }
    }

    static void p01_newObject_noPassageIsKnown(Due due) {
        ShameYards x = new ShameYards();
        for (int passage = 0; passage < 7; passage++) {
            due.is("passage", x.passage(passage, 0), UNKNOWN);
            due.is("carpet", x.carpet(passage, 1), UNKNOWN);
            due.is("pairs", x.pairs(passage, 0), UNKNOWN);
        }
    }

    static void p01_newObject_whatNeedsAMinistryIsState(Due due) {
        ShameYards x = new ShameYards();
        due.is("send(0)", x.send(0), STATE);
        due.is("days(1, 0, 0)", x.days(1, 0, 0), STATE);
        due.is("image()", x.image(), STATE);
        due.is("restore()", x.restore(), STATE);
        due.is("ministry()", x.ministry(), STATE);
    }

    static void p01_newObject_pageIsEmpty(Due due) {
        ShameYards x = new ShameYards();
        due.is("fault()", x.fault(), 0);
        due.is("blank()", x.blank(), 0);
        due.is("letter(32)", x.letter(32), 1);
    }

    static void p01_newObject_nothingIsSeen(Due due) {
        due.is("forget()", new ShameYards().forget(), 0);
    }

    static void p01_newObject_sharesNothingWithAnother(Due due) {
        ShameYards lively = new ShameYards();
        Twins.lively(lively);
        ShameYards x = new ShameYards();
        due.is("count(2)", x.count(2), 0);
        due.is("count(9)", x.count(9), 0);
        due.is("count(11)", x.count(11), 0);
        due.is("restore()", x.restore(), STATE);
        due.is("digest()", x.digest(), new ShameYards().digest());
        long before = lively.digest();
        x.letter(50);
        of(LARGEST).go(0, 0, 1);
        due.is("digest() of the other one", lively.digest(), before);
    }

    // "A letter comes behind THE PAGE, told by its code: how many THE PAGE has."

    static void p02_letter_firstIs1(Due due) {
        due.is("letter(50)", new ShameYards().letter(50), 1);
    }

    static void p02_letter_comesBehindTheOthers(Due due) {
        ShameYards x = new ShameYards();
        x.letter('2');
        x.letter(';');
        due.is("fault() of 2;", x.fault(), 2);
        x.blank();
        x.letter(';');
        x.letter('2');
        due.is("fault() of ;2", x.fault(), 0);
    }

    static void p02_letter_isOneAgainBehindBlankAndMinistry(Due due) {
        ShameYards x = new ShameYards();
        Typing.type(x, "22");
        x.blank();
        due.is("letter(50) behind blank()", x.letter('2'), 1);
        Typing.type(x, SMALLEST.substring(1));
        x.ministry();
        due.is("letter(50) behind ministry()", x.letter('2'), 1);
    }

    // "OUTSIDE: code (32 to 126)"

    static void p02_letter_code31IsTheFirstBelow(Due due) {
        due.is("letter(31)", new ShameYards().letter(31), OUTSIDE);
    }

    static void p02_letter_code32IsTheLeast(Due due) {
        due.is("letter(32)", new ShameYards().letter(32), 1);
    }

    static void p02_letter_code126IsTheMost(Due due) {
        due.is("letter(126)", new ShameYards().letter(126), 1);
    }

    static void p02_letter_code127IsTheFirstAbove(Due due) {
        due.is("letter(127)", new ShameYards().letter(127), OUTSIDE);
    }

    static void p02_letter_everyCodeBetweenIsTaken(Due due) {
        for (int code = 32; code <= 126; code++) {
            due.is("letter(" + code + ")", new ShameYards().letter(code), 1);
        }
    }

    static void p02_letter_codesFarOffAreOutside(Due due) {
        int[] codes = {0, -1, -32, 128, 255, 256 + 50, 65536 + 50, -65536 + 50, LEAST, LEAST + 50, MOST};
        each(due, "letter(%d)", codes, code -> new ShameYards().letter(code), OUTSIDE);
    }

    static void p02_letter_outsideChangesNothing(Due due) {
        Twins.unchanged(due, "letter(31)", x -> x.letter(31), OUTSIDE);
        Twins.unchanged(due, "letter(127)", x -> x.letter(127), OUTSIDE);
    }

    // "FULL: above 52"

    static void p02_letter_the52ndIsTheLast(Due due) {
        ShameYards x = new ShameYards();
        times(51, () -> x.letter(64));
        due.is("letter(64), the 52nd", x.letter(64), 52);
        due.is("count(9)", x.count(9), 52);
    }

    static void p02_letter_the53rdIsFull(Due due) {
        ShameYards x = new ShameYards();
        times(52, () -> x.letter(64));
        due.is("letter(64), the 53rd", x.letter(64), FULL);
        due.is("letter(64), once more", x.letter(64), FULL);
        due.is("count(9)", x.count(9), 52);
    }

    static void p02_letter_fullChangesNothing(Due due) {
        Twins.unchanged(due, "letter(50)", x -> {
            Twins.lively(x);
            times(48, () -> x.letter(64));
        }, x -> x.letter(50), FULL);
    }

    static void p02_letter_outsideIsToldAheadOfFull(Due due) {
        ShameYards x = new ShameYards();
        times(52, () -> x.letter(64));
        due.is("letter(31)", x.letter(31), OUTSIDE);
        due.is("letter(127)", x.letter(127), OUTSIDE);
    }

    static void p02_letter_isTakenAgainBehindABlankOfAFullPage(Due due) {
        ShameYards x = new ShameYards();
        times(53, () -> x.letter(64));
        x.blank();
        due.is("letter(64)", x.letter(64), 1);
    }

    // "THE PAGE is empty: how many letters it had."

    static void p03_blank_ofAnEmptyPageIs0(Due due) {
        ShameYards x = new ShameYards();
        due.is("blank()", x.blank(), 0);
        due.is("count(9)", x.count(9), 0);
    }

    static void p03_blank_ofOneLetterIs1(Due due) {
        ShameYards x = new ShameYards();
        x.letter(64);
        due.is("blank()", x.blank(), 1);
        due.is("count(9)", x.count(9), 0);
    }

    static void p03_blank_ofAFullPageIs52(Due due) {
        ShameYards x = new ShameYards();
        times(52, () -> x.letter(64));
        due.is("blank()", x.blank(), 52);
        due.is("count(9)", x.count(9), 0);
        due.is("fault()", x.fault(), 0);
    }

    static void p03_blank_ofAFullPageThatRefusedOneIs52(Due due) {
        ShameYards x = new ShameYards();
        times(53, () -> x.letter(64));
        due.is("blank()", x.blank(), 52);
    }

    static void p03_blank_againIs0(Due due) {
        ShameYards x = new ShameYards();
        Typing.type(x, "2;0");
        x.blank();
        due.is("blank()", x.blank(), 0);
    }

    static void p03_blank_behindMinistryIs0(Due due) {
        due.is("blank()", of(LARGEST).blank(), 0);
    }

    static void p03_blank_behindARefusedMinistryIsAllThatItHad(Due due) {
        ShameYards x = new ShameYards();
        Typing.type(x, "2;0");
        x.ministry();
        due.is("blank()", x.blank(), 3);
    }

    static void p03_blank_oldLettersDoNotComeBack(Due due) {
        ShameYards x = new ShameYards();
        Typing.type(x, SMALLEST);
        x.blank();
        x.letter('2');
        due.is("fault() of 2", x.fault(), 1);
        due.is("ministry() of 2", x.ministry(), STATE);
    }

    static void p03_blank_leavesAllElse(Due due) {
        ShameYards x = new ShameYards();
        ShameYards y = new ShameYards();
        Twins.lively(x);
        Twins.lively(y);
        due.is("blank()", x.blank(), 4);
        Typing.type(x, "2;01");
        due.is("digest()", x.digest(), y.digest());
        due.is("restore()", x.restore(), y.restore());
        due.is("digest() of what was kept", x.digest(), y.digest());
    }
}
