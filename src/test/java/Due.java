/** Counts answers that are not the ones that are due, and ends the test by them. */
final class Due {
    private int asked;
    private int wrong;
    private String promise = "";

    void promise(String name) {
        promise = name;
    }

    void is(String call, long got, long want) {
        asked++;
        if (got != want) {
            wrong++;
            System.out.println(promise + ": " + call + " answered " + got + ", due is " + want);
        }
    }

    void holds(String what, boolean is) {
        asked++;
        if (!is) {
            wrong++;
            System.out.println(promise + ": it does not hold that " + what);
        }
    }

    int asked() {
        return asked;
    }

    int wrong() {
        return wrong;
    }

    void end(String test) {
        System.out.println(test + ": " + asked + " looked at, " + wrong + " not as due");
        if (wrong != 0 || asked == 0) {
            System.exit(1);
        }
    }
}
