import java.util.Random;

/** Long runs of calls by chance, with the same seeds each time, against the slow oracle. */
public final class OracleTest {
    private static final int RUNS = 1500;
    private static final int CALLS = 512;
    private static final String KINDS = "cbmwl";

    private static final Due due = new Due();

    private final Random random;
    private final ShameYards yards = new ShameYards();
    private final Oracle oracle = new Oracle();
    private final int run;
    private int calls;

    private OracleTest(int run) {
        this.run = run;
        this.random = new Random(run);
    }

    public static void main(String[] args) {
        for (int run = 0; run < RUNS && due.wrong() < 20; run++) {
            due.promise("run " + run);
            new OracleTest(run).play();
        }
        due.end("OracleTest");
    }

    private void play() {
        int readings = run % 10 == 0 ? 4 : 1 + run % 2;
        for (int i = 0; i < readings; i++) {
            int until = CALLS * (i + 1) / readings;
            if (run % 7 == 3 && i == 0) {
                someLetters();
            }
            read();
            while (calls < until - 55) {
                one();
            }
            is("digest()", yards.digest(), oracle.digest());
        }
    }

    private void is(String call, long got, long want) {
        calls++;
        due.is("call " + calls + ", " + call, got, want);
    }

    private void type(String text) {
        for (int i = 0; i < text.length(); i++) {
            char code = text.charAt(i);
            is("letter(" + (int) code + ")", yards.letter(code), oracle.letter(code));
        }
    }

    private int below(int bound) {
        return random.nextInt(bound);
    }

    private String ministryText() {
        int rooms = 2 + below(4);
        StringBuilder text = new StringBuilder().append(rooms).append(';');
        for (int i = below(7); i >= 0; i--) {
            int a = below(rooms);
            text.append(a).append((a + 1 + below(rooms - 1)) % rooms).append(1 + below(run % 3 == 0 ? 2 : 9));
            text.append(i == 0 ? ';' : ',');
        }
        int high = run % 4 == 0 ? 2 : 10;
        for (int i = below(5); i >= 0; i--) {
            text.append(KINDS.charAt(below(5))).append(below(high)).append(below(high)).append(i == 0 ? "" : ",");
        }
        return text.toString();
    }

    private void read() {
        String text = ministryText();
        is("blank()", yards.blank(), oracle.blank());
        type(text);
        is("fault()", yards.fault(), oracle.fault());
        is("ministry()", yards.ministry(), oracle.ministry());
    }

    /** Texts that are nearly a ministry: one letter is another one, is gone or comes in. */
    private void someLetters() {
        for (int i = 0; i < 4; i++) {
            StringBuilder text = new StringBuilder(ministryText());
            char sign = "0123459;,cbmwlx ~".charAt(below(17));
            int place = below(text.length());
            switch (below(3)) {
                case 0 -> text.setCharAt(place, sign);
                case 1 -> text.deleteCharAt(place);
                default -> text.insert(place, sign);
            }
            type(text.toString());
            is("fault() of " + text, yards.fault(), oracle.fault());
            if (below(2) == 0) {
                is("ministry() of " + text, yards.ministry(), oracle.ministry());
            }
            is("blank()", yards.blank(), oracle.blank());
        }
    }

    /** Most often a number that there is, now and then one at the edge or far off. */
    private int number(int low, int high) {
        int kind = below(24);
        if (kind == 0) {
            return low - 1;
        }
        if (kind == 1) {
            return high + 1;
        }
        if (kind == 2) {
            return below(4) == 0 ? random.nextInt() : low - 2 + below(high - low + 5);
        }
        return low + below(high - low + 1);
    }

    private int person() {
        return number(0, Math.max(0, oracle.count(2) - 1));
    }

    private int room() {
        return number(0, Math.max(0, oracle.count(0) - 1));
    }

    private int passage() {
        return number(0, Math.max(0, oracle.count(1) - 1));
    }

    private int with() {
        return below(2) == 0 ? -1 : person();
    }

    private int what(int low, int high) {
        return below(3) == 0 ? 0 : number(low, high);
    }

    private void one() {
        int kind = below(100);
        if (kind < 30) {
            walk();
        } else if (kind < 50) {
            change();
        } else if (kind < 75) {
            wouldBe();
        } else if (kind < 90) {
            look();
        } else {
            tell();
        }
    }

    private void walk() {
        int a = person();
        int b = passage();
        int c = with();
        if (below(3) == 0) {
            is("steps(" + a + ", " + b + ", " + c + ")", yards.steps(a, b, c), oracle.steps(a, b, c));
        }
        is("go(" + a + ", " + b + ", " + c + ")", yards.go(a, b, c), oracle.go(a, b, c));
        is("person(" + a + ", 3)", yards.person(a, 3), oracle.person(a, 3));
    }

    private void change() {
        int a = person();
        int b = passage();
        int length = number(1, 9);
        switch (below(4)) {
            case 0 -> is("sin(" + a + ")", yards.sin(a), oracle.sin(a));
            case 1 -> is("lie(" + a + ")", yards.lie(a), oracle.lie(a));
            case 2 -> is("confess(" + a + ")", yards.confess(a), oracle.confess(a));
            default -> is("carpet(" + b + ", " + length + ")", yards.carpet(b, length), oracle.carpet(b, length));
        }
    }

    private void wouldBe() {
        int a = person();
        int b = passage();
        int from = room();
        int to = room();
        int w;
        switch (below(5)) {
            case 0, 1 -> {
                w = what(10, 13);
                is("far(" + a + ", " + from + ", " + to + ", " + w + ")",
                        yards.far(a, from, to, w), oracle.far(a, from, to, w));
            }
            case 2 -> {
                w = what(11, 14);
                is("send(" + w + ")", yards.send(w), oracle.send(w));
            }
            case 3 -> {
                w = what(10, 14);
                is("pairs(" + b + ", " + w + ")", yards.pairs(b, w), oracle.pairs(b, w));
            }
            default -> {
                int other = person();
                int times = number(1, 3);
                w = number(0, 1);
                is("meet(" + a + ", " + other + ", " + times + ", " + w + ")",
                        yards.meet(a, other, times, w), oracle.meet(a, other, times, w));
            }
        }
    }

    private void look() {
        int a = person();
        int b = passage();
        int c = with();
        switch (below(8)) {
            case 0, 1, 2 -> {
                // most often what can be, so that some lies are left
                int steps = oracle.steps(a, b, c) + (below(3) == 0 ? below(9) - 2 : 0);
                is("see(" + a + ", " + b + ", " + c + ", " + steps + ")",
                        yards.see(a, b, c, steps), oracle.see(a, b, c, steps));
                is("person(" + a + ", 5)", yards.person(a, 5), oracle.person(a, 5));
                is("person(" + a + ", 6)", yards.person(a, 6), oracle.person(a, 6));
            }
            case 3 -> is("forget()", yards.forget(), oracle.forget());
            case 4 -> {
                int steps = number(0, 120);
                is("see(" + a + ", " + b + ", " + c + ", " + steps + ")",
                        yards.see(a, b, c, steps), oracle.see(a, b, c, steps));
            }
            default -> {
                int times = number(1, 60);
                int seed = below(9) == 0 ? -below(3) : random.nextInt(Integer.MAX_VALUE);
                int w = number(0, 2);
                is("days(" + times + ", " + seed + ", " + w + ")",
                        yards.days(times, seed, w), oracle.days(times, seed, w));
            }
        }
    }

    private void tell() {
        int a = person();
        int b = passage();
        int w;
        switch (below(8)) {
            case 0 -> is("image()", yards.image(), oracle.image());
            case 1 -> is("restore()", yards.restore(), oracle.restore());
            case 2, 3 -> {
                w = number(0, 11);
                is("count(" + w + ")", yards.count(w), oracle.count(w));
            }
            case 4 -> {
                w = number(0, 6);
                is("person(" + a + ", " + w + ")", yards.person(a, w), oracle.person(a, w));
            }
            case 5 -> {
                w = number(0, 4);
                is("as(" + a + ", " + w + ")", yards.as(a, w), oracle.as(a, w));
            }
            case 6 -> {
                w = number(0, 2);
                is("passage(" + b + ", " + w + ")", yards.passage(b, w), oracle.passage(b, w));
            }
            default -> {
                w = number(32, 126);
                is("letter(" + w + ")", yards.letter(w), oracle.letter(w));
                is("digest()", yards.digest(), oracle.digest());
            }
        }
    }
}
