import java.util.function.Consumer;
import java.util.function.ToLongFunction;

/**
 * Two objects with the same calls behind them, one of which is then called once more: whether they
 * still are alike tells whether that call changed anything.
 */
final class Twins {
    private Twins() {
    }

    /** Something of all that a call could change: walks, deeds, lies, lengths, SEEN, an IMAGE, a PAGE. */
    static void lively(ShameYards x) {
        Typing.type(x, "4;014,125,023,239;c12,b30,l99");
        x.ministry();
        x.go(0, 0, 1);
        x.see(0, 0, -1, 9);
        x.see(1, 0, 2, 50);
        x.image();
        x.send(0);
        x.go(1, 1, -1);
        x.confess(1);
        x.sin(0);
        x.lie(1);
        x.carpet(1, 8);
        x.see(2, 0, 0, 7);
        Typing.type(x, "2;01");
    }

    /** A lively object's call is answered so, and nothing is otherwise behind it. */
    static void unchanged(Due due, String name, ToLongFunction<ShameYards> call, long answer) {
        unchanged(due, name, Twins::lively, call, answer);
    }

    static void unchanged(Due due, String name, Consumer<ShameYards> history, ToLongFunction<ShameYards> call,
            long answer) {
        ShameYards called = new ShameYards();
        ShameYards left = new ShameYards();
        history.accept(called);
        history.accept(left);
        due.is(name, call.applyAsLong(called), answer);
        alike(due, "behind " + name + " ", called, left);
    }

    private static void alike(Due due, String when, ShameYards called, ShameYards left) {
        due.is(when + "digest()", called.digest(), left.digest());
        due.is(when + "fault()", called.fault(), left.fault());
        due.is(when + "send(0)", called.send(0), left.send(0));
        due.is(when + "days(60, 3, 0)", called.days(60, 3, 0), left.days(60, 3, 0));
        due.is(when + "restore()", called.restore(), left.restore());
        due.is(when + "digest() of what was kept", called.digest(), left.digest());
        due.is(when + "forget()", called.forget(), left.forget());
        due.is(when + "letter(49)", called.letter('1'), left.letter('1'));
        Typing.type(called, ";c00");
        Typing.type(left, ";c00");
        due.is(when + "ministry()", called.ministry(), left.ministry());
        due.is(when + "digest() at last", called.digest(), left.digest());
    }
}
