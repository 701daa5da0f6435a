/** Each promise of the document by answers worked out by hand: ordinary ones, edges, wrong inputs. */
public final class PromiseTest {
    private static final int NONE = -1;
    private static final int UNKNOWN = -101;
    private static final int OUTSIDE = -102;
    private static final int STATE = -103;
    private static final int FULL = -104;
    private static final int LEAST = Integer.MIN_VALUE;
    private static final int MOST = Integer.MAX_VALUE;
    /** One of each kind, with 1 deed and 2 lies each. */
    private static final String ALL_KINDS = "3;014,125,026;c12,b12,m12,w12,l12";

    private static final Due due = new Due();

    public static void main(String[] args) {
        newObject();
        letter();
        blank();
        faultOfBeginnings();
        faultOfPassages();
        faultOfPeople();
        ministry();
        ministryAnew();
        person();
        possibleLies();
        ask();
        as();
        passage();
        steps();
        go();
        goRefused();
        goTired();
        goTiredByOne();
        sinLieConfess();
        carpet();
        far();
        farByKindsAndRefused();
        send();
        sendLimits();
        pairs();
        meet();
        see();
        forget();
        days();
        daysChangeNothing();
        imageAndRestore();
        restoreRefused();
        count();
        digest();
        refusalsChangeNothing();
        due.end("PromiseTest");
    }

    private static void newObject() {
        due.promise("1 a new object");
        ShameYards x = new ShameYards();
        for (int what = 0; what <= 11; what++) {
            due.is("count(" + what + ")", x.count(what), 0);
        }
        due.is("person(0, 0)", x.person(0, 0), UNKNOWN);
        due.is("as(0, 0)", x.as(0, 0), UNKNOWN);
        due.is("passage(0, 0)", x.passage(0, 0), UNKNOWN);
        due.is("steps(0, 0, -1)", x.steps(0, 0, -1), UNKNOWN);
        due.is("go(0, 0, -1)", x.go(0, 0, -1), UNKNOWN);
        due.is("sin(0)", x.sin(0), UNKNOWN);
        due.is("lie(0)", x.lie(0), UNKNOWN);
        due.is("confess(0)", x.confess(0), UNKNOWN);
        due.is("carpet(0, 1)", x.carpet(0, 1), UNKNOWN);
        due.is("far(0, 0, 0, 0)", x.far(0, 0, 0, 0), UNKNOWN);
        due.is("send(0)", x.send(0), STATE);
        due.is("send(1)", x.send(1), OUTSIDE);
        due.is("pairs(0, 0)", x.pairs(0, 0), UNKNOWN);
        due.is("meet(0, 1, 1, 0)", x.meet(0, 1, 1, 0), UNKNOWN);
        due.is("see(0, 0, -1, 1)", x.see(0, 0, -1, 1), UNKNOWN);
        due.is("forget()", x.forget(), 0);
        due.is("days(1, 1, 0)", x.days(1, 1, 0), STATE);
        due.is("days(0, 1, 0)", x.days(0, 1, 0), OUTSIDE);
        due.is("image()", x.image(), STATE);
        due.is("restore()", x.restore(), STATE);
        due.is("fault()", x.fault(), 0);
        due.is("blank()", x.blank(), 0);
        due.is("ministry()", x.ministry(), STATE);
        long h = 1193;
        for (int i = 0; i < 12; i++) {
            h *= 31;
        }
        due.is("digest()", x.digest(), h);
    }

    private static void letter() {
        due.promise("2 letter");
        ShameYards x = new ShameYards();
        for (int code : new int[] {31, 127, 0, -1, 128, 32 + 65536, LEAST, MOST}) {
            due.is("letter(" + code + ")", x.letter(code), OUTSIDE);
        }
        due.is("letter(32)", x.letter(32), 1);
        due.is("letter(126)", x.letter(126), 2);
        for (int i = 3; i <= 52; i++) {
            due.is("letter(64)", x.letter(64), i);
        }
        due.is("letter(64), the 53rd", x.letter(64), FULL);
        due.is("letter(31) on a full page", x.letter(31), OUTSIDE);
        due.is("count(9)", x.count(9), 52);
    }

    private static void blank() {
        due.promise("3 blank");
        ShameYards x = new ShameYards();
        Typing.type(x, "2;0");
        due.is("blank()", x.blank(), 3);
        due.is("blank() again", x.blank(), 0);
        due.is("letter(50)", x.letter(50), 1);
        due.is("blank() of one", x.blank(), 1);
        Typing.type(x, " ".repeat(52));
        due.is("blank() of a full page", x.blank(), 52);
        due.is("letter(32)", x.letter(32), 1);
        ShameYards y = Typing.of("2;011;c00");
        due.is("blank() behind ministry()", y.blank(), 0);
        due.is("count(2), the ministry stays", y.count(2), 1);
    }

    private static void faultAt(String text, int place) {
        ShameYards x = new ShameYards();
        Typing.type(x, text);
        due.is("fault() of " + text, x.fault(), place);
        due.is("fault() changes nothing", x.count(9), text.length());
    }

    private static void faultOfBeginnings() {
        due.promise("4 fault");
        faultAt("", 0);
        for (int code = 32; code <= 126; code++) {
            boolean fits = code >= '2' && code <= '5';
            faultAt(String.valueOf((char) code), fits ? 1 : 0);
        }
        faultAt("2", 1);
        faultAt("2,", 1);
        faultAt("2:", 1);
        faultAt("22", 1);
        faultAt("2;", 2);
        faultAt("1;011;c00", 0);
        faultAt("6;011;c00", 0);
        faultAt(" 2;011;c00", 0);
    }

    private static void faultOfPassages() {
        faultAt("2;;", 2);
        faultAt("2;,", 2);
        faultAt("2;c", 2);
        faultAt("2;2", 2);
        faultAt("2;0", 3);
        faultAt("2;00", 3);
        faultAt("2;02", 3);
        faultAt("2;01", 4);
        faultAt("2;10", 4);
        faultAt("3;022", 5);
        faultAt("3;032", 3);
        faultAt("5;04", 4);
        faultAt("5;05", 3);
        faultAt("5;5", 2);
        faultAt("2;010", 4);
        faultAt("2;01;", 4);
        faultAt("2;01:", 4);
        faultAt("2;/", 2);
        faultAt("2;1/", 3);
        faultAt("2;019", 5);
        faultAt("2;0199", 5);
        faultAt("2;019:", 5);
        faultAt("2;019c", 5);
        faultAt("2;019,", 6);
        faultAt("2;019,,", 6);
        faultAt("2;019,;", 6);
        faultAt("2;011,011,011,011,011,011,01", 28);
        faultAt("2;011,011,011,011,011,011,011", 29);
        faultAt("2;011,011,011,011,011,011,011,", 29);
        faultAt("2;011,011,011,011,011,011,011;", 30);
        faultAt("2;011,011,011,011,011,011,011;m", 31);
        faultAt("2;011,011,011,011,011,011,011,011;c00", 29);
    }

    private static void faultOfPeople() {
        for (int code = 32; code <= 126; code++) {
            boolean fits = "cbmwl".indexOf(code) >= 0;
            faultAt("2;011;" + (char) code, fits ? 7 : 6);
        }
        faultAt("2;011;;", 6);
        faultAt("2;011;c", 7);
        faultAt("2;011;cc", 7);
        faultAt("2;011;c:", 7);
        faultAt("2;011;c/", 7);
        faultAt("2;011;c0", 8);
        faultAt("2;011;c0,", 8);
        faultAt("2;011;c9:", 8);
        faultAt("2;011;c9/", 8);
        faultAt("2;011;c00", 9);
        faultAt("2;011;c00;", 9);
        faultAt("2;011;c000", 9);
        faultAt("2;011;c00 ", 9);
        faultAt("2;011;c00,", 10);
        faultAt("2;011;c00,,", 10);
        faultAt("2;011;c00,b99,m00,w00,l00", 25);
        faultAt("2;011;c00,b99,m00,w00,l00,", 25);
        faultAt("5;011,122,233,344,405,136,249;l99,m99,w99,b99,c99", 49);
        faultAt("5;011,122,233,344,405,136,249;l99,m99,w99,b99,c99,", 49);
        faultAt("5;011,122,233,344,405,136,249;l99,m99,w99,b99,c99,c0", 49);
    }

    private static void notRead(String text) {
        ShameYards x = new ShameYards();
        Typing.type(x, text);
        due.is("ministry() of " + text, x.ministry(), STATE);
        due.is("count(9) behind it", x.count(9), text.length());
        due.is("count(10) behind it", x.count(10), 0);
        due.is("count(0) behind it", x.count(0), 0);
    }

    private static void ministry() {
        due.promise("5 ministry");
        String whole = "3;011,122;c12,m99";
        for (int size = 0; size < whole.length(); size++) {
            if (size != 13) {
                notRead(whole.substring(0, size));
            }
        }
        notRead("3;011,122;c12,m99,");
        notRead("3;011,122;c12,m99;");
        notRead("3;011,122;c12,x99");
        notRead("3;011,132;c12,m99");
        notRead("2;011,011,011,011,011,011,011,011;c00");
        notRead("2;011;c00,c00,c00,c00,c00,c00");
        ShameYards x = new ShameYards();
        Typing.type(x, whole);
        due.is("ministry()", x.ministry(), 2);
        due.is("count(9)", x.count(9), 0);
        due.is("count(10)", x.count(10), 1);
        due.is("ministry() of an empty page", x.ministry(), STATE);
        due.is("count(10)", x.count(10), 1);
        due.is("count(2), the ministry stays", x.count(2), 2);
        due.is("person(0, 3)", x.person(0, 3), 0);
        due.is("person(1, 3)", x.person(1, 3), 0);
        due.is("one person", Typing.of("2;011;c00").count(2), 1);
        due.is("five people", Typing.of("5;011,122,233,344,405,136,249;l99,m99,w99,b99,c99").count(2), 5);
    }

    private static void ministryAnew() {
        ShameYards x = Typing.of("3;011,122;c12,m99");
        x.go(0, 0, 1);
        x.see(0, 0, 1, 7);
        x.sin(0);
        x.send(0);
        x.image();
        Typing.type(x, "2;013;b34");
        due.is("ministry() anew", x.ministry(), 1);
        int[] counts = {2, 1, 1, 3, 4, 0, 0, 1, 0, 0, 2};
        for (int what = 0; what < counts.length; what++) {
            due.is("count(" + what + ")", x.count(what), counts[what]);
        }
        due.is("person(0, 0)", x.person(0, 0), 1);
        due.is("person(0, 3)", x.person(0, 3), 0);
        due.is("person(0, 4)", x.person(0, 4), 0);
        due.is("person(0, 5)", x.person(0, 5), 1023);
        due.is("person(1, 0)", x.person(1, 0), UNKNOWN);
        due.is("passage(1, 0)", x.passage(1, 0), UNKNOWN);
        due.is("far to a room that is gone", x.far(0, 0, 2, 0), UNKNOWN);
        due.is("restore()", x.restore(), STATE);
        due.is("count(11), send() was done once all the same", x.count(11), 1);
    }

    private static void person() {
        due.promise("6 person");
        ShameYards x = Typing.of("3;014,125;c12,b34,m56,w78,l90");
        for (int i = 0; i < 5; i++) {
            due.is("person(" + i + ", 0)", x.person(i, 0), i);
            due.is("person(" + i + ", 1)", x.person(i, 1), 1 + 2 * i);
            due.is("person(" + i + ", 2)", x.person(i, 2), (2 + 2 * i) % 10);
            due.is("person(" + i + ", 3)", x.person(i, 3), 0);
            due.is("person(" + i + ", 4)", x.person(i, 4), 0);
            due.is("person(" + i + ", 5)", x.person(i, 5), 1023);
        }
        x.go(0, 0, -1);
        x.go(0, 1, -1);
        due.is("person(0, 3)", x.person(0, 3), 2);
        due.is("person(0, 4)", x.person(0, 4), 9 + 10);
        due.is("person(1, 3)", x.person(1, 3), 0);
        for (int who : new int[] {-1, 5, LEAST, MOST}) {
            due.is("person(" + who + ", 0)", x.person(who, 0), UNKNOWN);
            due.is("person(" + who + ", 7)", x.person(who, 7), UNKNOWN);
        }
        for (int what : new int[] {-1, 7, LEAST, MOST}) {
            due.is("person(0, " + what + ")", x.person(0, what), OUTSIDE);
        }
    }

    private static void possibleLies() {
        ShameYards x = Typing.of("2;015;c10,b00,w00,l20,m10");
        x.see(2, 0, -1, 3);
        due.is("person(2, 5)", x.person(2, 5), 8 + 16 + 32);
        due.is("person(0, 5), nothing is seen of him", x.person(0, 5), 1023);
        x.see(0, 0, 1, 9);
        due.is("person(0, 5), together", x.person(0, 5), 16);
        due.is("person(1, 5), he was but with him", x.person(1, 5), 1023);
        x.lie(1);
        x.lie(1);
        due.is("person(0, 5), the other one lies", x.person(0, 5), 8);
        x.lie(0);
        due.is("person(0, 5), whatever he told", x.person(0, 5), 8);
        x.carpet(0, 7);
        due.is("person(0, 5), it is longer", x.person(0, 5), 4);
        x.sin(0);
        x.sin(0);
        due.is("person(0, 5), with more deeds", x.person(0, 5), 2);
        x.sin(0);
        x.sin(0);
        due.is("person(0, 5), with far more", x.person(0, 5), 1);
        x.sin(0);
        due.is("person(0, 5), with too many", x.person(0, 5), 0);
        due.is("person(0, 6)", x.person(0, 6), NONE);
        due.is("person(2, 5)", x.person(2, 5), 4 + 8 + 16);
        x.forget();
        x.carpet(0, 5);
        x.see(3, 0, -1, 30);
        due.is("person(3, 5)", x.person(3, 5), 4);
        x.see(4, 0, -1, 26);
        due.is("person(4, 5)", x.person(4, 5), 512);
        x.see(4, 0, -1, 25);
        due.is("person(4, 5), no lies would be so", x.person(4, 5), 0);
        x.see(1, 0, -1, 3);
        due.is("person(1, 5)", x.person(1, 5), 1);
        x.see(1, 0, -1, 3);
        due.is("person(1, 5), seen twice", x.person(1, 5), 1);
        x.see(1, 0, -1, 4);
        due.is("person(1, 5), both cannot be", x.person(1, 5), 0);
    }

    private static void ask() {
        ShameYards x = Typing.of("2;015,019,012;w00,c00");
        due.is("person(0, 6), three at worst wherever", x.person(0, 6), 0);
        due.is("person(1, 6), one always", x.person(1, 6), 0);
        x.see(0, 0, -1, 2);
        due.is("person(0, 5)", x.person(0, 5), 2 + 4);
        // with 1 or 2 lies: 11 or 13 yards of passage 1 are 3 steps, 4 or 6 of passage 2 are 1 or 2
        x.carpet(2, 2);
        due.is("person(0, 6), passage 2", x.person(0, 6), 20);
        x.carpet(1, 2);
        due.is("person(0, 6), passage 1 is as good", x.person(0, 6), 10);
        x.go(1, 0, -1);
        due.is("person(0, 6), wherever they are", x.person(0, 6), 10);
        x.see(0, 1, -1, 1);
        due.is("person(0, 5), it is 1", x.person(0, 5), 2);
        due.is("person(0, 6), of like ones the least", x.person(0, 6), 0);
        x.see(0, 1, -1, 2);
        due.is("person(0, 6), none is left", x.person(0, 6), NONE);
    }

    private static void as() {
        due.promise("7 as");
        ShameYards x = Typing.of("2;011;l00,w00,m00,b00,c00");
        boolean[][] is = {
            {true, false, true, false, true},
            {true, false, false, true, false},
            {true, false, true, false, false},
            {true, true, false, false, false},
            {true, false, false, false, false},
        };
        for (int who = 0; who < 5; who++) {
            for (int kind = 0; kind < 5; kind++) {
                due.is("as(" + who + ", " + kind + ")", x.as(who, kind), is[who][kind] ? who : NONE);
            }
        }
        for (int wrong : new int[] {-1, 5, LEAST, MOST}) {
            due.is("as(" + wrong + ", 0)", x.as(wrong, 0), UNKNOWN);
            due.is("as(0, " + wrong + ")", x.as(0, wrong), OUTSIDE);
            due.is("as(-1, " + wrong + ")", x.as(-1, wrong), UNKNOWN);
        }
    }

    private static void passage() {
        due.promise("8 passage");
        ShameYards x = Typing.of("5;104,349;c00");
        int[][] told = {{1, 0, 4}, {3, 4, 9}};
        for (int passage = 0; passage < 2; passage++) {
            for (int what = 0; what < 3; what++) {
                due.is("passage(" + passage + ", " + what + ")", x.passage(passage, what), told[passage][what]);
            }
        }
        for (int wrong : new int[] {-1, LEAST, MOST}) {
            due.is("passage(" + wrong + ", 0)", x.passage(wrong, 0), UNKNOWN);
            due.is("passage(0, " + wrong + ")", x.passage(0, wrong), OUTSIDE);
        }
        due.is("passage(2, 0)", x.passage(2, 0), UNKNOWN);
        due.is("passage(2, 3)", x.passage(2, 3), UNKNOWN);
        due.is("passage(1, 3)", x.passage(1, 3), OUTSIDE);
    }

    private static void steps() {
        due.promise("9 steps");
        ShameYards x = Typing.of(ALL_KINDS);
        int[][] alone = {{9, 5, 11, 2, 22}, {10, 5, 12, 2, 24}, {11, 6, 13, 3, 26}};
        for (int passage = 0; passage < 3; passage++) {
            for (int who = 0; who < 5; who++) {
                due.is("steps(" + who + ", " + passage + ", -1)", x.steps(who, passage, -1), alone[passage][who]);
                for (int with = 0; with < 5; with++) {
                    int mean = (alone[passage][who] + alone[passage][with] + 1) / 2;
                    due.is("steps(" + who + ", " + passage + ", " + with + ")", x.steps(who, passage, with),
                            who == with ? UNKNOWN : mean);
                }
            }
        }
        for (int wrong : new int[] {-2, 5, LEAST, MOST}) {
            due.is("steps(" + wrong + ", 0, -1)", x.steps(wrong, 0, -1), UNKNOWN);
            due.is("steps(0, " + wrong + ", -1)", x.steps(0, wrong, -1), UNKNOWN);
            due.is("steps(0, 0, " + wrong + ")", x.steps(0, 0, wrong), UNKNOWN);
        }
        due.is("steps(-1, 0, 0)", x.steps(-1, 0, 0), UNKNOWN);
        due.is("steps(0, 3, -1)", x.steps(0, 3, -1), UNKNOWN);
        due.is("steps(0, -1, -1)", x.steps(0, -1, -1), UNKNOWN);
        ShameYards y = Typing.of("2;019,011;l99,w99,w00,b00,c00");
        due.is("the farthest", y.steps(0, 0, -1), 108);
        due.is("a hop of 36", y.steps(1, 0, -1), 8);
        due.is("a hop of 28", y.steps(1, 1, -1), 6);
        due.is("a hop of 1", y.steps(2, 1, -1), 1);
        due.is("half of 1", y.steps(3, 1, -1), 1);
        due.is("a clear conscience", y.steps(4, 0, -1), 9);
        due.is("wherever they are", y.go(3, 0, -1), 5);
        due.is("steps(3, 0, 4)", y.steps(3, 0, 4), 7);
    }

    private static void go() {
        due.promise("10 go");
        ShameYards x = Typing.of(ALL_KINDS);
        due.is("go(4, 0, 2)", x.go(4, 0, 2), 17);
        due.is("person(4, 3)", x.person(4, 3), 1);
        due.is("person(2, 3)", x.person(2, 3), 1);
        due.is("person(4, 4)", x.person(4, 4), 17);
        due.is("person(2, 4)", x.person(2, 4), 17);
        due.is("count(5)", x.count(5), 34);
        due.is("count(6)", x.count(6), 1);
        due.is("count(7)", x.count(7), 3);
        due.is("go(4, 0, -1), back", x.go(4, 0, -1), 22);
        due.is("person(4, 3)", x.person(4, 3), 0);
        due.is("person(4, 4)", x.person(4, 4), 39);
        due.is("count(6), alone", x.count(6), 1);
        due.is("go(2, 1, -1)", x.go(2, 1, -1), 12);
        due.is("person(2, 3)", x.person(2, 3), 2);
        due.is("go(2, 2, -1), against the text's order", x.go(2, 2, -1), 13);
        due.is("person(2, 3)", x.person(2, 3), 0);
        due.is("person(2, 4)", x.person(2, 4), 42);
        due.is("person(0, 4)", x.person(0, 4), 0);
        due.is("person(0, 2), walking tells no lies", x.person(0, 2), 2);
    }

    private static void goRefused() {
        ShameYards x = Typing.of(ALL_KINDS);
        due.is("go(0, 1, -1)", x.go(0, 1, -1), STATE);
        due.is("go(0, 1, 1)", x.go(0, 1, 1), STATE);
        x.go(1, 0, -1);
        due.is("go(0, 0, 1), he is elsewhere", x.go(0, 0, 1), STATE);
        due.is("go(1, 0, 0), he is elsewhere", x.go(1, 0, 0), STATE);
        due.is("go(1, 2, -1)", x.go(1, 2, -1), STATE);
        for (int wrong : new int[] {-2, 5, LEAST, MOST}) {
            due.is("go(" + wrong + ", 0, -1)", x.go(wrong, 0, -1), UNKNOWN);
            due.is("go(0, " + wrong + ", -1)", x.go(0, wrong, -1), UNKNOWN);
            due.is("go(0, 0, " + wrong + ")", x.go(0, 0, wrong), UNKNOWN);
            due.is("go(0, 1, " + wrong + ")", x.go(0, 1, wrong), UNKNOWN);
        }
        due.is("go(0, 3, -1)", x.go(0, 3, -1), UNKNOWN);
        due.is("go(0, 0, 0)", x.go(0, 0, 0), UNKNOWN);
        due.is("count(5)", x.count(5), 5);
        due.is("count(6)", x.count(6), 0);
    }

    private static void goTired() {
        ShameYards x = Typing.of("3;019,121;c99,c00,c00");
        for (int i = 0; i < 250; i++) {
            due.is("go(0, 0, -1)", x.go(0, 0, -1), 36);
        }
        due.is("person(0, 4)", x.person(0, 4), 9000);
        due.is("go(0, 0, 1), 9000 is not more than that", x.go(0, 0, 1), 23);
        due.is("person(0, 4)", x.person(0, 4), 9023);
        due.is("go(0, 0, -1)", x.go(0, 0, -1), FULL);
        due.is("go(0, 0, 1)", x.go(0, 0, 1), FULL);
        due.is("go(1, 0, 0), the other one took too many", x.go(1, 0, 0), FULL);
        due.is("go(0, 0, 2), he is elsewhere", x.go(0, 0, 2), STATE);
        due.is("go(0, 0, 0)", x.go(0, 0, 0), UNKNOWN);
        due.is("go(1, 0, -1)", x.go(1, 0, -1), 9);
        due.is("go(1, 1, -1)", x.go(1, 1, -1), STATE);
        due.is("person(0, 3)", x.person(0, 3), 1);
        due.is("person(0, 4)", x.person(0, 4), 9023);
        due.is("person(1, 4)", x.person(1, 4), 23 + 9);
    }

    private static void goTiredByOne() {
        ShameYards x = Typing.of("2;019;m90,c00");
        for (int i = 0; i < 250; i++) {
            x.go(0, 0, -1);
        }
        for (int i = 0; i < 9; i++) {
            x.confess(0);
        }
        x.carpet(0, 1);
        due.is("person(0, 4)", x.person(0, 4), 9000);
        due.is("image()", x.image(), 9000);
        due.is("go(1, 0, 0), with one who took 9000", x.go(1, 0, 0), 1);
        due.is("person(0, 4)", x.person(0, 4), 9001);
        due.is("go(1, 0, 0), with one who took 9001", x.go(1, 0, 0), FULL);
        due.is("go(0, 0, -1)", x.go(0, 0, -1), FULL);
        due.is("restore()", x.restore(), 9000);
        due.is("go(0, 0, -1)", x.go(0, 0, -1), 1);
    }

    private static void sinLieConfess() {
        ShameYards x = Typing.of("2;011;c78,c00");
        due.promise("11 sin");
        due.is("sin(0)", x.sin(0), 8);
        due.is("sin(0)", x.sin(0), 9);
        due.is("sin(0)", x.sin(0), FULL);
        due.is("person(0, 1)", x.person(0, 1), 9);
        due.is("person(0, 2)", x.person(0, 2), 8);
        due.is("sin(1)", x.sin(1), 1);
        due.promise("12 lie");
        due.is("lie(0)", x.lie(0), 9);
        due.is("lie(0)", x.lie(0), FULL);
        due.is("person(0, 2)", x.person(0, 2), 9);
        due.is("lie(1)", x.lie(1), 1);
        due.is("person(1, 1)", x.person(1, 1), 1);
        due.promise("13 confess");
        due.is("confess(0)", x.confess(0), 8);
        due.is("person(0, 1)", x.person(0, 1), 8);
        due.is("person(0, 2)", x.person(0, 2), 9);
        due.is("confess(1)", x.confess(1), 0);
        due.is("confess(1)", x.confess(1), STATE);
        due.is("person(1, 1)", x.person(1, 1), 0);
        for (int wrong : new int[] {-1, 2, LEAST, MOST}) {
            due.is("sin(" + wrong + ")", x.sin(wrong), UNKNOWN);
            due.is("lie(" + wrong + ")", x.lie(wrong), UNKNOWN);
            due.is("confess(" + wrong + ")", x.confess(wrong), UNKNOWN);
        }
    }

    private static void carpet() {
        due.promise("14 carpet");
        ShameYards x = Typing.of("2;014,015;c00");
        due.is("carpet(0, 9)", x.carpet(0, 9), 4);
        due.is("carpet(0, 1)", x.carpet(0, 1), 9);
        due.is("carpet(0, 1)", x.carpet(0, 1), 1);
        due.is("passage(0, 2)", x.passage(0, 2), 1);
        due.is("passage(1, 2)", x.passage(1, 2), 5);
        due.is("steps(0, 0, -1)", x.steps(0, 0, -1), 1);
        for (int wrong : new int[] {0, 10, -1, LEAST, MOST}) {
            due.is("carpet(0, " + wrong + ")", x.carpet(0, wrong), OUTSIDE);
            due.is("carpet(2, " + wrong + ")", x.carpet(2, wrong), UNKNOWN);
        }
        due.is("carpet(-1, 1)", x.carpet(-1, 1), UNKNOWN);
        due.is("carpet(2, 1)", x.carpet(2, 1), UNKNOWN);
        due.is("passage(0, 2)", x.passage(0, 2), 1);
    }

    private static void way(ShameYards x, int person, int from, int to, int steps, int... legs) {
        String call = "far(" + person + ", " + from + ", " + to + ", ";
        due.is(call + "0)", x.far(person, from, to, 0), steps);
        for (int i = 0; i < 4; i++) {
            due.is(call + (10 + i) + ")", x.far(person, from, to, 10 + i), i < legs.length ? legs[i] : NONE);
        }
    }

    private static void far() {
        due.promise("15 far");
        ShameYards line = Typing.of("5;011,122,233,344;c00");
        way(line, 0, 0, 4, 10, 0, 1, 2, 3);
        way(line, 0, 4, 0, 10, 3, 2, 1, 0);
        way(line, 0, 1, 3, 5, 1, 2);
        way(line, 0, 2, 2, 0);
        ShameYards backwards = Typing.of("5;344,233,122,011;c00");
        way(backwards, 0, 0, 4, 10, 3, 2, 1, 0);
        ShameYards square = Typing.of("4;011,021,131,231;c00");
        way(square, 0, 0, 3, 2, 0, 2);
        way(square, 0, 3, 0, 2, 2, 0);
        square.carpet(2, 2);
        way(square, 0, 0, 3, 2, 1, 3);
        ShameYards turned = Typing.of("4;231,131,021,011;c00");
        way(turned, 0, 0, 3, 2, 2, 0);
        ShameYards twice = Typing.of("2;013,012,102;c00");
        way(twice, 0, 0, 1, 2, 1);
        ShameYards direct = Typing.of("3;122,011,023;c00");
        way(direct, 0, 0, 2, 3, 1, 0);
        direct.carpet(2, 2);
        way(direct, 0, 0, 2, 2, 2);
        direct.carpet(2, 4);
        way(direct, 0, 0, 2, 3, 1, 0);
        ShameYards apart = Typing.of("4;011,231;c00");
        way(apart, 0, 0, 2, NONE);
        way(apart, 0, 3, 1, NONE);
        way(apart, 0, 3, 2, 1, 1);
    }

    private static void farByKindsAndRefused() {
        ShameYards x = Typing.of("3;014,124,029;c00,w00,l50");
        way(x, 0, 0, 2, 8, 0, 1);
        way(x, 1, 0, 2, 2, 0, 1);
        way(x, 2, 0, 2, 48, 2);
        x.go(0, 2, -1);
        way(x, 0, 0, 2, 8, 0, 1);
        x.carpet(0, 6);
        way(x, 1, 0, 2, 2, 2);
        for (int wrong : new int[] {-1, 3, LEAST, MOST}) {
            due.is("far(" + wrong + ", 0, 0, 0)", x.far(wrong, 0, 0, 0), UNKNOWN);
            due.is("far(0, " + wrong + ", 0, 0)", x.far(0, wrong, 0, 0), UNKNOWN);
            due.is("far(0, 0, " + wrong + ", 9)", x.far(0, 0, wrong, 9), UNKNOWN);
        }
        for (int wrong : new int[] {-1, 1, 9, 14, LEAST, MOST}) {
            due.is("far(0, 0, 1, " + wrong + ")", x.far(0, 0, 1, wrong), OUTSIDE);
        }
    }

    private static void sent(ShameYards x, int steps, int... who) {
        due.is("send(0)", x.send(0), steps);
        for (int i = 0; i < 4; i++) {
            due.is("send(" + (11 + i) + ")", x.send(11 + i), i < who.length ? who[i] : NONE);
        }
    }

    private static void send() {
        due.promise("16 send");
        sent(Typing.of("4;011,121,231;c00,c00,c00"), 6, 0, 1, 2);
        sent(Typing.of("4;011,121,231;c90,c00,c00,c00"), 6, 1, 2, 3);
        sent(Typing.of("4;011,121,231;l99,c30,b00,w00"), 9, 1, 2, 3);
        sent(Typing.of("3;011,022;w00"), NONE);
        sent(Typing.of("4;011,022;w00,w00,w00"), NONE);
        sent(Typing.of("2;011;l99"), 2 * (1 + 27 + 18), 0);
        sent(Typing.of("2;011;c00,b00,w00"), 1, 0);
        sent(Typing.of("5;011,021,031,041;c04,c03,c02,c01,c00"), 1 + 3 + 5 + 7, 1, 2, 3, 4);
        ShameYards x = Typing.of("3;012,023;c00,c00,c50");
        sent(x, 5, 0, 1);
        x.go(0, 1, -1);
        sent(x, 2, 1, 0);
        x.go(2, 0, -1);
        sent(x, 0, 2, 0);
        due.is("count(11)", x.count(11), 15);
        due.is("person(0, 3), none is sent in truth", x.person(0, 3), 2);
    }

    private static void sendLimits() {
        ShameYards x = Typing.of("3;012,023;c00,c00");
        for (int wrong : new int[] {-1, 1, 10, 15, LEAST, MOST}) {
            due.is("send(" + wrong + ")", x.send(wrong), OUTSIDE);
        }
        due.is("count(11)", x.count(11), 0);
        for (int i = 1; i <= 30; i++) {
            due.is("send(0)", x.send(0), 5);
            due.is("count(11)", x.count(11), i);
        }
        due.is("send(0), the 31st", x.send(0), STATE);
        due.is("send(11), the 31st", x.send(11), STATE);
        due.is("send(10)", x.send(10), OUTSIDE);
        due.is("count(11)", x.count(11), 30);
        ShameYards y = Typing.of("3;012;c00");
        due.is("send(0), it cannot be", y.send(0), NONE);
        due.is("count(11), it was done", y.count(11), 1);
    }

    private static void paired(String text, int passage, int steps, int... with) {
        ShameYards x = Typing.of(text);
        due.is("pairs(" + passage + ", 0) of " + text, x.pairs(passage, 0), steps);
        for (int i = 0; i < 5; i++) {
            due.is("pairs(" + passage + ", " + (10 + i) + ") of " + text, x.pairs(passage, 10 + i),
                    i < with.length ? with[i] : NONE);
        }
    }

    private static void pairs() {
        due.promise("17 pairs");
        paired(ALL_KINDS, 0, 12, NONE, NONE, NONE, 4, 3);
        paired(ALL_KINDS, 1, 13, NONE, NONE, NONE, 4, 3);
        paired("2;011;c00", 0, 1, NONE);
        paired("2;011;c00,c00", 0, 1, NONE, NONE);
        paired("2;012;l00,c00", 0, 3, 1, 0);
        paired("2;012;l00,c00,c00", 0, 3, 1, 0, NONE);
        paired("2;012;c00,l00,c00", 0, 3, NONE, 2, 1);
        paired("2;012;l00,l00,c00,c00", 0, 3, 2, 3, 0, 1);
        paired("2;012;l00,l00,c00", 0, 4, NONE, NONE, NONE);
        paired("2;012;c00,c00,c00,l00,c01", 0, 3, NONE, 3, 4, 1, 2);
        ShameYards x = Typing.of("2;012;l00,c00");
        x.go(0, 0, -1);
        due.is("pairs(0, 10), wherever all are", x.pairs(0, 10), 1);
        for (int wrong : new int[] {-1, 1, LEAST, MOST}) {
            due.is("pairs(" + wrong + ", 0)", x.pairs(wrong, 0), UNKNOWN);
            due.is("pairs(" + wrong + ", 9)", x.pairs(wrong, 9), UNKNOWN);
        }
        for (int wrong : new int[] {-1, 1, 9, 15, LEAST, MOST}) {
            due.is("pairs(0, " + wrong + ")", x.pairs(0, wrong), OUTSIDE);
        }
    }

    private static void met(ShameYards x, int a, int b, int times, long above, long below) {
        String call = "meet(" + a + ", " + b + ", " + times + ", ";
        due.is(call + "0)", x.meet(a, b, times, 0), above);
        due.is(call + "1)", x.meet(a, b, times, 1), below);
    }

    private static void meet() {
        due.promise("18 meet");
        ShameYards x = Typing.of("3;011,011,121;c00,l99");
        met(x, 0, 1, 1, 1, 1);
        met(x, 0, 1, 2, 5, 9);
        met(x, 1, 0, 2, 5, 9);
        met(x, 0, 1, 3, 1, 1);
        x.go(0, 0, -1);
        met(x, 0, 1, 1, 0, 1);
        met(x, 0, 1, 3, 0, 1);
        met(Typing.of("3;121;c00,c00"), 0, 1, 3, 1, 1);
        met(Typing.of("5;011,021,031,041;c00,c00"), 0, 1, 1, 1, 4);
        met(Typing.of("3;011,011,011,011,011,011,021;c00,c00"), 0, 1, 1, 37, 49);
        ShameYards y = Typing.of("4;011,231;c00,c00");
        met(y, 0, 1, 1, 1, 1);
        for (int wrong : new int[] {-1, 2, LEAST, MOST}) {
            due.is("meet(" + wrong + ", 0, 1, 0)", y.meet(wrong, 0, 1, 0), UNKNOWN);
            due.is("meet(0, " + wrong + ", 0, 9)", y.meet(0, wrong, 0, 9), UNKNOWN);
            due.is("meet(0, 1, 1, " + wrong + ")", y.meet(0, 1, 1, wrong), OUTSIDE);
        }
        for (int wrong : new int[] {0, 4, -1, LEAST, MOST}) {
            due.is("meet(0, 1, " + wrong + ", 0)", y.meet(0, 1, wrong, 0), OUTSIDE);
            due.is("meet(1, 1, " + wrong + ", 0)", y.meet(1, 1, wrong, 0), UNKNOWN);
        }
    }

    private static void see() {
        due.promise("19 see");
        ShameYards x = Typing.of("3;012,125;c00,w00");
        due.is("see(0, 1, -1, 0), wherever he is", x.see(0, 1, -1, 0), 1);
        due.is("see(1, 0, 0, 120)", x.see(1, 0, 0, 120), 2);
        for (int wrong : new int[] {-1, 121, LEAST, MOST}) {
            due.is("see(0, 0, -1, " + wrong + ")", x.see(0, 0, -1, wrong), OUTSIDE);
            due.is("see(0, 0, 0, " + wrong + ")", x.see(0, 0, 0, wrong), UNKNOWN);
        }
        for (int wrong : new int[] {-2, 2, LEAST, MOST}) {
            due.is("see(" + wrong + ", 0, -1, 1)", x.see(wrong, 0, -1, 1), UNKNOWN);
            due.is("see(0, " + wrong + ", -1, 1)", x.see(0, wrong, -1, 1), UNKNOWN);
            due.is("see(0, 0, " + wrong + ", 1)", x.see(0, 0, wrong, 1), UNKNOWN);
        }
        due.is("count(8)", x.count(8), 2);
        for (int i = 3; i <= 6; i++) {
            due.is("see(1, 1, -1, 2)", x.see(1, 1, -1, 2), i);
        }
        due.is("see, the 7th", x.see(1, 1, -1, 2), FULL);
        due.is("see, the 7th, outside", x.see(1, 1, -1, 121), OUTSIDE);
        due.is("see, the 7th, unknown", x.see(2, 1, -1, 2), UNKNOWN);
        due.is("count(8)", x.count(8), 6);
    }

    private static void forget() {
        due.promise("20 forget");
        ShameYards x = Typing.of("2;012;c00");
        x.see(0, 0, -1, 4);
        x.see(0, 0, -1, 4);
        due.is("person(0, 5)", x.person(0, 5), 2);
        due.is("forget()", x.forget(), 2);
        due.is("person(0, 5)", x.person(0, 5), 1023);
        due.is("count(8)", x.count(8), 0);
        due.is("forget()", x.forget(), 0);
        due.is("see(0, 0, -1, 6)", x.see(0, 0, -1, 6), 1);
        due.is("person(0, 5)", x.person(0, 5), 4);
    }

    // by the draws from seed 1: 16838, 5758, 10113, 17515, 31051, 5627, 23010, 7419, 16212, ...
    private static void days() {
        due.promise("21 days");
        ShameYards x = Typing.of("2;013;c00");
        due.is("days(1, 1, 0)", x.days(1, 1, 0), 3);
        due.is("days(1, 1, 1)", x.days(1, 1, 1), 0);
        due.is("days(1, 1, 2)", x.days(1, 1, 2), 662824084);
        due.is("days(2, 1, 1)", x.days(2, 1, 1), 1);
        due.is("days(3, 1, 0)", x.days(3, 1, 0), 9);
        due.is("days(4, 1, 0), he told a lie", x.days(4, 1, 0), 14);
        due.is("days(1, 0, 2)", x.days(1, 0, 2), 654583775);
        ShameYards y = Typing.of("3;123;c00");
        due.is("days(1, 1, 0), he stays", y.days(1, 1, 0), 0);
        due.is("days(1, 1, 1)", y.days(1, 1, 1), 1);
        due.is("days(1, 1, 2), by two draws", y.days(1, 1, 2), 377401575);
        // 16838 by 3 is person 2; 5758 by 3 is passage 1 of 3; 17515 by 3 is 1, 31051 by 3 is passage 1
        ShameYards z = Typing.of("3;011,022,013;c00,c10,c20");
        due.is("days(1, 1, 0)", z.days(1, 1, 0), 2 + 2);
        due.is("days(2, 1, 0)", z.days(2, 1, 0), 4 + 3);
        due.is("days(2, 1, 1)", z.days(2, 1, 1), 1);
        due.is("days(60, 5, 0), 9 lies at most", Typing.of("2;011;c09").days(60, 5, 0), 60 * 19);
    }

    private static void daysChangeNothing() {
        ShameYards x = Typing.of("3;011,122;c00,b12,l34");
        long before = x.digest();
        due.is("days(60, 3, 0) again", x.days(60, 3, 0), x.days(60, 3, 0));
        due.is("digest()", x.digest(), before);
        for (int wrong : new int[] {0, 61, -1, LEAST, MOST}) {
            due.is("days(" + wrong + ", 1, 0)", x.days(wrong, 1, 0), OUTSIDE);
        }
        due.is("days(1, -1, 0)", x.days(1, -1, 0), OUTSIDE);
        due.is("days(1, LEAST, 0)", x.days(1, LEAST, 0), OUTSIDE);
        for (int wrong : new int[] {-1, 3, LEAST, MOST}) {
            due.is("days(1, 1, " + wrong + ")", x.days(1, 1, wrong), OUTSIDE);
        }
        due.is("days(1, 1, 3) with no ministry", new ShameYards().days(1, 1, 3), OUTSIDE);
        due.is("days(60, MOST, 2) with no ministry", new ShameYards().days(60, MOST, 2), STATE);
        due.holds("days(60, MOST, 2) is a seed", x.days(60, MOST, 2) >= 0);
    }

    private static void imageAndRestore() {
        ShameYards x = Typing.of(ALL_KINDS);
        x.go(0, 0, 1);
        x.sin(2);
        x.lie(3);
        x.carpet(1, 8);
        x.see(3, 0, -1, 2);
        long then = x.digest();
        due.promise("22 image");
        due.is("image()", x.image(), 14);
        due.is("digest(), nothing is changed", x.digest(), then);
        x.go(1, 1, -1);
        x.go(2, 0, 3);
        x.confess(4);
        x.lie(4);
        x.carpet(1, 2);
        x.carpet(2, 2);
        x.see(3, 0, -1, 3);
        Typing.type(x, "2;");
        due.promise("23 restore");
        due.is("restore()", x.restore(), 14);
        due.is("count(9), the page stays", x.count(9), 2);
        x.blank();
        due.is("digest()", x.digest(), then);
        x.forget();
        x.see(1, 1, 0, 5);
        x.send(0);
        due.is("restore() again", x.restore(), 14);
        due.is("count(8)", x.count(8), 1);
        due.is("person(3, 5)", x.person(3, 5), 2 + 4);
        due.is("count(11), send() was done all the same", x.count(11), 1);
        x.go(4, 0, -1);
        due.promise("22 image");
        due.is("image(), the latest", x.image(), 36);
        x.go(4, 0, -1);
        due.is("restore(), the latest", x.restore(), 36);
        due.is("person(4, 3)", x.person(4, 3), 1);
    }

    private static void restoreRefused() {
        due.promise("23 restore");
        ShameYards x = Typing.of("2;013;c00");
        due.is("restore(), none was kept", x.restore(), STATE);
        due.is("image()", x.image(), 0);
        x.ministry();
        due.is("restore(), nothing was read", x.restore(), 0);
        Typing.type(x, "2;013;c00");
        due.is("restore(), it is not read yet", x.restore(), 0);
        x.ministry();
        due.is("restore(), there is another one", x.restore(), STATE);
        due.is("image()", x.image(), 0);
        due.is("restore()", x.restore(), 0);
    }

    private static void count() {
        due.promise("24 count");
        ShameYards x = Typing.of("4;014,125;c12,b34,w56");
        x.go(0, 0, 1);
        x.go(1, 1, -1);
        x.see(0, 0, -1, 9);
        x.send(0);
        x.send(11);
        Typing.type(x, "2;0");
        int[] told = {4, 2, 3, 9, 12, 9 + 9 + 8, 1, 1, 1, 3, 1, 2};
        for (int what = 0; what < told.length; what++) {
            due.is("count(" + what + ")", x.count(what), told[what]);
        }
        for (int wrong : new int[] {-1, 12, LEAST, MOST}) {
            due.is("count(" + wrong + ")", x.count(wrong), OUTSIDE);
        }
    }

    private static long digestByCalls(ShameYards x, String page) {
        long h = 1193;
        for (int who = 0; who < x.count(2); who++) {
            for (int what = 0; what <= 6; what++) {
                h = 31 * h + x.person(who, what);
            }
            for (int room = 0; room < x.count(0); room++) {
                h = 31 * h + x.far(who, x.person(who, 3), room, 0);
                h = 31 * h + x.far(who, x.person(who, 3), room, 10);
            }
        }
        for (int passage = 0; passage < x.count(1); passage++) {
            for (int what = 0; what <= 2; what++) {
                h = 31 * h + x.passage(passage, what);
            }
            h = 31 * h + x.pairs(passage, 0);
            for (int what = 10; what <= 14; what++) {
                h = 31 * h + x.pairs(passage, what);
            }
        }
        if (x.count(2) >= 2) {
            h = 31 * (31 * h + x.meet(0, 1, 2, 0)) + x.meet(0, 1, 2, 1);
        }
        for (int i = 0; i < page.length(); i++) {
            h = 31 * h + page.charAt(i);
        }
        for (int what = 0; what <= 11; what++) {
            h = 31 * h + x.count(what);
        }
        return h;
    }

    private static void digest() {
        due.promise("25 digest");
        ShameYards x = new ShameYards();
        Typing.type(x, "2;~ ");
        due.is("digest() of a page", x.digest(), digestByCalls(x, "2;~ "));
        ShameYards one = Typing.of("3;014;m35");
        due.is("digest() of one", one.digest(), digestByCalls(one, ""));
        ShameYards two = Typing.of("3;014,014,125;m35,w01");
        two.go(1, 0, -1);
        due.is("digest() of two", two.digest(), digestByCalls(two, ""));
        ShameYards y = Typing.of("5;014,125,233,026;c12,b12,m12,w12,l12");
        due.is("digest()", y.digest(), digestByCalls(y, ""));
        y.go(0, 0, 4);
        y.go(0, 1, -1);
        y.see(3, 1, 0, 7);
        y.send(0);
        Typing.type(y, "5;01");
        due.is("digest() later", y.digest(), digestByCalls(y, "5;01"));
        due.is("digest() again", y.digest(), digestByCalls(y, "5;01"));
    }

    private static void refusalsChangeNothing() {
        due.promise("refusals");
        ShameYards x = Typing.of("3;014;c00,l90");
        x.go(0, 0, 1);
        x.image();
        for (int i = 0; i < 6; i++) {
            x.see(0, 0, 1, 9);
        }
        Typing.type(x, "2;01");
        long before = x.digest();
        int[] told = {x.letter(31), x.ministry(), x.go(0, 1, -1), x.go(0, 0, 0), x.go(2, 0, -1), x.sin(1), x.sin(2),
            x.lie(-1), x.confess(0), x.confess(2), x.carpet(0, 0), x.carpet(1, 5), x.send(10), x.see(0, 0, 1, 9),
            x.see(0, 0, 1, 121), x.days(0, 0, 0), x.count(12), x.far(0, 3, 0, 0), x.pairs(0, 1), x.person(0, 7)};
        int[] wanted = {OUTSIDE, STATE, UNKNOWN, UNKNOWN, UNKNOWN, FULL, UNKNOWN, UNKNOWN, STATE, UNKNOWN, OUTSIDE,
            UNKNOWN, OUTSIDE, FULL, OUTSIDE, OUTSIDE, OUTSIDE, UNKNOWN, OUTSIDE, OUTSIDE};
        for (int i = 0; i < told.length; i++) {
            due.is("refusal " + i, told[i], wanted[i]);
        }
        due.is("digest()", x.digest(), before);
    }
}
