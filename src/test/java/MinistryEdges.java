/** The text of a MINISTRY, where it is wrong first, and its reading: promises 4 and 5. */
final class MinistryEdges extends Edges {
    private static void fault(Due due, String text, int place) {
        ShameYards x = new ShameYards();
        Typing.type(x, text);
        due.is("fault() of " + text, x.fault(), place);
    }

    private static void read(Due due, String text, int people) {
        ShameYards x = new ShameYards();
        Typing.type(x, text);
        due.is("ministry() of " + text, x.ministry(), people);
        due.is("count(9) behind " + text, x.count(9), 0);
        due.is("count(10) behind " + text, x.count(10), 1);
    }

    private static void notRead(Due due, String text) {
        ShameYards x = new ShameYards();
        Typing.type(x, text);
        due.is("ministry() of " + text, x.ministry(), STATE);
        due.is("count(9) behind " + text, x.count(9), text.length());
        due.is("count(10) behind " + text, x.count(10), 0);
        due.is("count(2) behind " + text, x.count(2), 0);
    }

    // "The place (from 0) of the first letter of THE PAGE that no MINISTRY has there, behind those
    // ahead of it; how many letters it has, if there is none."

    static void p04_fault_emptyPageIs0(Due due) {
        fault(due, "", 0);
    }

    static void p04_fault_everyBeginningHasNone(Due due) {
        for (int size = 0; size <= LARGEST.length(); size++) {
            fault(due, LARGEST.substring(0, size), size);
        }
    }

    static void p04_fault_wholeTextsHaveNone(Due due) {
        fault(due, SMALLEST, 9);
        fault(due, LARGEST, 49);
    }

    static void p04_fault_firstLetterIsPlace0(Due due) {
        fault(due, "x", 0);
    }

    static void p04_fault_lastLetterAlone(Due due) {
        fault(due, LARGEST.substring(0, 48) + "x", 48);
    }

    static void p04_fault_theFirstOfSeveralIsTold(Due due) {
        fault(due, "2;00x;q00", 3);
        fault(due, "xxxxxxxxx", 0);
        fault(due, "2;011;q00;", 6);
    }

    static void p04_fault_fullPage(Due due) {
        fault(due, " ".repeat(52), 0);
        fault(due, LARGEST + ",c0", 49);
        fault(due, LARGEST + "   ", 49);
    }

    static void p04_fault_everySignAtEveryPlace(Due due) {
        for (int place = 0; place <= LARGEST.length(); place++) {
            String ahead = LARGEST.substring(0, place);
            for (char sign = 32; sign <= 126; sign++) {
                boolean fits = fitting(ahead).indexOf(sign) >= 0;
                fault(due, ahead + sign, fits ? place + 1 : place);
            }
        }
    }

    /** The signs that may come behind this beginning of the largest text, as the document tells them. */
    private static String fitting(String ahead) {
        int size = ahead.length();
        if (size < 2) {
            return size == 0 ? "2345" : ";";
        }
        if (size < 30) {
            switch ((size - 2) % 4) {
                case 0: return "01234";
                case 1: return "01234".replace(ahead.substring(size - 1), "");
                case 2: return "123456789";
                default: return size == 29 ? ";" : ",;";
            }
        }
        switch ((size - 30) % 4) {
            case 0: return "cbmwl";
            case 1: case 2: return "0123456789";
            default: return size == 49 ? "" : ",";
        }
    }

    static void p04_fault_changesNothing(Due due) {
        Twins.unchanged(due, "fault()", ShameYards::fault, 4);
    }

    // "a digit, how many ROOMS (2 to 5, numbered from 0)"

    static void p04_fault_1RoomIsTheFirstBelow(Due due) {
        fault(due, "1;011;c00", 0);
    }

    static void p04_fault_2RoomsAreTheFewest(Due due) {
        fault(due, "2;011;c00", 9);
    }

    static void p04_fault_5RoomsAreTheMost(Due due) {
        fault(due, "5;011;c00", 9);
    }

    static void p04_fault_6RoomsAreTheFirstAbove(Due due) {
        fault(due, "6;011;c00", 0);
    }

    static void p04_fault_0And9RoomsAreNone(Due due) {
        fault(due, "0;011;c00", 0);
        fault(due, "9;011;c00", 0);
    }

    // "';'"

    static void p04_fault_semicolonBehindTheRooms(Due due) {
        fault(due, "2:011;c00", 1);
        fault(due, "2,011;c00", 1);
        fault(due, "2011;c00", 1);
        fault(due, "23;011;c00", 1);
    }

    // "one to seven PASSAGES (numbered from 0) with ',' between"

    static void p04_fault_noPassage(Due due) {
        fault(due, "2;;c00", 2);
        fault(due, "2;c00", 2);
    }

    static void p04_fault_onePassage(Due due) {
        fault(due, "2;011;", 6);
    }

    static void p04_fault_sevenPassages(Due due) {
        fault(due, "2;011,011,011,011,011,011,011;c00", 33);
    }

    static void p04_fault_eightPassages(Due due) {
        fault(due, "2;011,011,011,011,011,011,011,011;c00", 29);
    }

    static void p04_fault_commaBetweenPassages(Due due) {
        fault(due, "2;011011;c00", 5);
        fault(due, "2;011.011;c00", 5);
        fault(due, "2;011,,011;c00", 6);
        fault(due, "2;,011;c00", 2);
    }

    static void p04_fault_noPassageBehindTheComma(Due due) {
        fault(due, "2;011,;c00", 6);
        fault(due, "2;011,", 6);
    }

    // "two digits, the ROOMS at its ends (unlike ones that there are)"

    static void p04_fault_lastRoomIsThere(Due due) {
        for (int rooms = 2; rooms <= 5; rooms++) {
            fault(due, rooms + ";" + (rooms - 1) + "01;c00", 9);
            fault(due, rooms + ";0" + (rooms - 1) + "1;c00", 9);
        }
    }

    static void p04_fault_firstRoomBeyondIsNotThere(Due due) {
        for (int rooms = 2; rooms <= 5; rooms++) {
            fault(due, rooms + ";" + rooms + "01;c00", 2);
            fault(due, rooms + ";0" + rooms + "1;c00", 3);
        }
    }

    static void p04_fault_signsBesideTheDigitsAreNoRooms(Due due) {
        fault(due, "2;/01;c00", 2);
        fault(due, "2;0/1;c00", 3);
        fault(due, "5;:01;c00", 2);
        fault(due, "5;0:1;c00", 3);
    }

    static void p04_fault_likeEnds(Due due) {
        for (int rooms = 2; rooms <= 5; rooms++) {
            for (int room = 0; room < rooms; room++) {
                fault(due, rooms + ";" + room + room + "1;c00", 3);
            }
        }
    }

    static void p04_fault_likeEndsOfTheLastPassage(Due due) {
        fault(due, "3;011,011,011,011,011,011,221;c00", 27);
    }

    static void p04_fault_samePassageTwiceIsNone(Due due) {
        fault(due, "2;011,011,101;c00", 17);
    }

    // "a digit, its LENGTH (1 to 9)"

    static void p04_fault_length0IsTheFirstBelow(Due due) {
        fault(due, "2;010;c00", 4);
    }

    static void p04_fault_length1IsTheLeast(Due due) {
        fault(due, "2;011;c00", 9);
    }

    static void p04_fault_length9IsTheMost(Due due) {
        fault(due, "2;019;c00", 9);
    }

    static void p04_fault_length10HasNoRoom(Due due) {
        fault(due, "2;0110;c00", 5);
        fault(due, "2;01:;c00", 4);
    }

    static void p04_fault_lengthIsNotLeftOut(Due due) {
        fault(due, "2;01;c00", 4);
    }

    // "';'; one to five PEOPLE (numbered from 0) with ',' between"

    static void p04_fault_noPerson(Due due) {
        fault(due, "2;011;", 6);
        fault(due, "2;011;;", 6);
        fault(due, "2;011;,", 6);
    }

    static void p04_fault_onePerson(Due due) {
        fault(due, "2;011;c00", 9);
    }

    static void p04_fault_fivePeople(Due due) {
        fault(due, "2;011;c00,c00,c00,c00,c00", 25);
    }

    static void p04_fault_sixPeople(Due due) {
        fault(due, "2;011;c00,c00,c00,c00,c00,c00", 25);
    }

    static void p04_fault_commaBetweenPeople(Due due) {
        fault(due, "2;011;c00c00", 9);
        fault(due, "2;011;c00;c00", 9);
        fault(due, "2;011;c00,,c00", 10);
    }

    static void p04_fault_noPersonBehindTheComma(Due due) {
        fault(due, "2;011;c00,", 10);
        fault(due, "2;011;c00,;", 10);
    }

    // "each a letter, the KIND, and two digits, DEEDS and LIES (0 to 9 each)"

    static void p04_fault_fiveLettersAreKinds(Due due) {
        for (char letter = 'a'; letter <= 'z'; letter++) {
            fault(due, "2;011;" + letter, "cbmwl".indexOf(letter) >= 0 ? 7 : 6);
        }
    }

    static void p04_fault_capitalsAreNoKinds(Due due) {
        for (char letter = 'A'; letter <= 'Z'; letter++) {
            fault(due, "2;011;" + letter, 6);
        }
    }

    static void p04_fault_deedsAndLies0And9(Due due) {
        fault(due, "2;011;c00", 9);
        fault(due, "2;011;c99", 9);
    }

    static void p04_fault_signsBesideTheDigitsAreNoDeedsOrLies(Due due) {
        fault(due, "2;011;c/0", 7);
        fault(due, "2;011;c:0", 7);
        fault(due, "2;011;c0/", 8);
        fault(due, "2;011;c0:", 8);
    }

    static void p04_fault_deedsOrLiesAreNotLeftOut(Due due) {
        fault(due, "2;011;c,", 7);
        fault(due, "2;011;c0,", 8);
    }

    static void p04_fault_aThirdDigit(Due due) {
        fault(due, "2;011;c000", 9);
    }

    static void p04_fault_blanksAreNowhere(Due due) {
        fault(due, " 2;011;c00", 0);
        fault(due, "2; 011;c00", 2);
        fault(due, "2;011; c00", 6);
        fault(due, "2;011;c00 ", 9);
    }

    // "THE PAGE is read as THE MINISTRY: how many PEOPLE; STATE: it is none."

    static void p05_ministry_emptyPageIsNone(Due due) {
        notRead(due, "");
    }

    static void p05_ministry_beginningsAreNone(Due due) {
        for (int size = 0; size < LARGEST.length(); size++) {
            boolean endsWithAPerson = size > 30 && (size - 30) % 4 == 3;
            if (endsWithAPerson) {
                read(due, LARGEST.substring(0, size), (size - 29) / 4);
            } else {
                notRead(due, LARGEST.substring(0, size));
            }
        }
    }

    static void p05_ministry_theSmallest(Due due) {
        read(due, SMALLEST, 1);
    }

    static void p05_ministry_theLargest(Due due) {
        read(due, LARGEST, 5);
    }

    static void p05_ministry_oneToFivePeopleAreTold(Due due) {
        for (int people = 1; people <= 5; people++) {
            read(due, "2;011;c00" + ",c00".repeat(people - 1), people);
        }
    }

    static void p05_ministry_sixPeopleAreNone(Due due) {
        notRead(due, "2;011;c00,c00,c00,c00,c00,c00");
    }

    static void p05_ministry_noPeopleAreNone(Due due) {
        notRead(due, "2;011;");
        notRead(due, "2;011");
    }

    static void p05_ministry_oneToSevenPassages(Due due) {
        for (int passages = 1; passages <= 7; passages++) {
            read(due, "2;011" + ",011".repeat(passages - 1) + ";c00", 1);
        }
    }

    static void p05_ministry_noPassageIsNone(Due due) {
        notRead(due, "2;;c00");
        notRead(due, "2;c00");
    }

    static void p05_ministry_eightPassagesAreNone(Due due) {
        notRead(due, "2;011,011,011,011,011,011,011,011;c00");
    }

    static void p05_ministry_roomsBesideTheirBounds(Due due) {
        notRead(due, "1;011;c00");
        read(due, "2;011;c00", 1);
        read(due, "5;011;c00", 1);
        notRead(due, "6;011;c00");
    }

    static void p05_ministry_aRoomThatIsNotThere(Due due) {
        notRead(due, "2;021;c00");
        notRead(due, "2;201;c00");
        notRead(due, "5;051;c00");
    }

    static void p05_ministry_likeEnds(Due due) {
        notRead(due, "2;001;c00");
        notRead(due, "2;111;c00");
    }

    static void p05_ministry_length0(Due due) {
        notRead(due, "2;010;c00");
    }

    static void p05_ministry_aKindThatIsNone(Due due) {
        notRead(due, "2;011;x00");
        notRead(due, "2;011;C00");
    }

    static void p05_ministry_moreBehindAWholeOne(Due due) {
        notRead(due, "2;011;c00,");
        notRead(due, "2;011;c00;");
        notRead(due, "2;011;c00 ");
        notRead(due, LARGEST + ",");
        notRead(due, LARGEST + "   ");
    }

    static void p05_ministry_oneFaultFarAheadIsEnough(Due due) {
        notRead(due, "2;001,011;c00,c00");
        notRead(due, "2;011,011;x00,c00");
    }

    static void p05_ministry_aFullPageIsNone(Due due) {
        notRead(due, " ".repeat(52));
    }

    static void p05_ministry_aRoomWithoutPassagesIsFine(Due due) {
        read(due, "5;341;c00", 1);
    }

    static void p05_ministry_stateChangesNothing(Due due) {
        Twins.unchanged(due, "ministry() of 2;01", ShameYards::ministry, STATE);
        Twins.unchanged(due, "ministry() of nothing", x -> {
            Twins.lively(x);
            x.blank();
        }, ShameYards::ministry, STATE);
    }

    // "THE PAGE is empty then."

    static void p05_ministry_pageIsEmptyThen(Due due) {
        ShameYards x = of(LARGEST);
        due.is("count(9)", x.count(9), 0);
        due.is("fault()", x.fault(), 0);
        due.is("ministry() again", x.ministry(), STATE);
        due.is("blank()", x.blank(), 0);
        due.is("count(2)", x.count(2), 5);
    }

    static void p05_ministry_refusedPageMayBeMended(Due due) {
        ShameYards x = new ShameYards();
        Typing.type(x, "2;011;c0");
        due.is("ministry()", x.ministry(), STATE);
        x.letter('0');
        due.is("ministry()", x.ministry(), 1);
    }

    // "another one is gone, with all that was"

    private static ShameYards readOver(String text) {
        ShameYards x = of("5;019,122,233,344;l99,m99,w99,b99,c99");
        x.go(0, 0, 1);
        x.go(2, 0, -1);
        x.see(0, 0, 1, 7);
        x.see(1, 0, -1, 7);
        x.carpet(0, 5);
        x.image();
        Typing.type(x, text);
        x.ministry();
        return x;
    }

    static void p05_ministry_othersPeopleAreGone(Due due) {
        ShameYards x = readOver("2;013;b12");
        due.is("count(2)", x.count(2), 1);
        due.is("person(1, 0)", x.person(1, 0), UNKNOWN);
        due.is("person(0, 0)", x.person(0, 0), 1);
        due.is("person(0, 1)", x.person(0, 1), 1);
        due.is("person(0, 2)", x.person(0, 2), 2);
        due.is("count(3)", x.count(3), 1);
        due.is("count(4)", x.count(4), 2);
        due.is("pairs(0, 10)", x.pairs(0, 10), NONE);
    }

    static void p05_ministry_othersRoomsAndPassagesAreGone(Due due) {
        ShameYards x = readOver("2;013;b12");
        due.is("count(0)", x.count(0), 2);
        due.is("count(1)", x.count(1), 1);
        due.is("passage(0, 2)", x.passage(0, 2), 3);
        due.is("passage(1, 0)", x.passage(1, 0), UNKNOWN);
        due.is("far(0, 0, 2, 0)", x.far(0, 0, 2, 0), UNKNOWN);
    }

    static void p05_ministry_othersStepsAndWalksAreGone(Due due) {
        ShameYards x = readOver("2;013;b12,c00");
        due.is("person(0, 4)", x.person(0, 4), 0);
        due.is("person(1, 4)", x.person(1, 4), 0);
        due.is("count(5)", x.count(5), 0);
        due.is("count(6)", x.count(6), 0);
    }

    static void p05_ministry_othersSightsAreGone(Due due) {
        ShameYards x = readOver("2;013;b12,c00");
        due.is("count(8)", x.count(8), 0);
        due.is("person(0, 5)", x.person(0, 5), 1023);
        due.is("forget()", x.forget(), 0);
    }

    static void p05_ministry_othersImageIsGone(Due due) {
        due.is("restore()", readOver("2;013;b12").restore(), STATE);
    }

    static void p05_ministry_howOftenOneWasReadGoesOn(Due due) {
        due.is("count(10)", readOver("2;013;b12").count(10), 2);
    }

    static void p05_ministry_aLargerOneBehindASmallOne(Due due) {
        ShameYards x = of(SMALLEST);
        x.go(0, 0, -1);
        Typing.type(x, LARGEST);
        due.is("ministry()", x.ministry(), 5);
        due.is("count(7)", x.count(7), 5);
        due.is("count(5)", x.count(5), 0);
        due.is("passage(6, 2)", x.passage(6, 2), 9);
        due.is("person(4, 0)", x.person(4, 0), 0);
        due.is("person(0, 0)", x.person(0, 0), 4);
    }

    static void p05_ministry_sameAsANewObjectWouldHave(Due due) {
        ShameYards x = readOver(LARGEST);
        ShameYards y = new ShameYards();
        Typing.type(y, SMALLEST);
        y.ministry();
        Typing.type(y, LARGEST);
        y.ministry();
        due.is("digest()", x.digest(), y.digest());
    }

    // "At first there is none; then all PEOPLE are in ROOM 0."

    static void p05_ministry_allAreInRoom0Then(Due due) {
        ShameYards x = readOver(LARGEST);
        for (int person = 0; person < 5; person++) {
            due.is("person(" + person + ", 3)", x.person(person, 3), 0);
        }
        due.is("count(7)", x.count(7), 5);
    }
}
