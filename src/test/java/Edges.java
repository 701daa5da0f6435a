import java.util.function.IntToLongFunction;

/** What the cases at the edges have in common: the numbers of the face, texts, and rows of wrong numbers. */
abstract class Edges {
    static final int NONE = -1;
    static final int UNKNOWN = -101;
    static final int OUTSIDE = -102;
    static final int STATE = -103;
    static final int FULL = -104;
    static final int LEAST = Integer.MIN_VALUE;
    static final int MOST = Integer.MAX_VALUE;
    /** The shortest text of a MINISTRY, with the fewest and the smallest of all. */
    static final String SMALLEST = "2;011;c00";
    /** The longest one, with the most of all: 49 letters. */
    static final String LARGEST = "5;011,122,233,344,405,136,249;l99,m99,w99,b99,c99";

    static ShameYards of(String text) {
        return Typing.of(text);
    }

    /** So many PEOPLE, none of whom has anything on his conscience, with one PASSAGE of LENGTH 1. */
    static ShameYards ofPeople(int count) {
        return of("2;011;c00" + ",c00".repeat(count - 1));
    }

    /** One clerk, with so many PASSAGES of LENGTH 1 between the same ROOMS. */
    static ShameYards ofPassages(int count) {
        return of("2;011" + ",011".repeat(count - 1) + ";c00");
    }

    /** One clerk, with so many ROOMS, a PASSAGE of LENGTH 1 from each to the next. */
    static ShameYards ofRooms(int count) {
        return of(count + ";011,121,231,341".substring(0, 4 * count - 4) + ";c00");
    }

    /** The first numbers that none of so many things has, on either side, and some far off. */
    static int[] beyond(int count) {
        return new int[] {-1, count, -2, count + 1, LEAST, MOST, 65536, 256, -65536};
    }

    /** The same for one who goes along, where -1 says that none does. */
    static int[] beyondWith(int count) {
        return new int[] {-2, count, -3, count + 1, LEAST, MOST, 65536, 256, -65536};
    }

    /** Each of the numbers, put for the %d of the call's name, is answered so. */
    static void each(Due due, String name, int[] numbers, IntToLongFunction call, long answer) {
        for (int number : numbers) {
            due.is(String.format(name, number), call.applyAsLong(number), answer);
        }
    }

    static void times(int count, Runnable call) {
        for (int i = 0; i < count; i++) {
            call.run();
        }
    }
}
