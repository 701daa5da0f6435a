/** Types texts onto THE PAGE of an object, as the tests do all the time. */
final class Typing {
    private Typing() {
    }

    static void type(ShameYards yards, String text) {
        for (int i = 0; i < text.length(); i++) {
            yards.letter(text.charAt(i));
        }
    }

    /** A new object that has read the text as its ministry. */
    static ShameYards of(String text) {
        ShameYards yards = new ShameYards();
        type(yards, text);
        if (yards.ministry() < 0) {
            throw new IllegalStateException("not read: " + text);
        }
        return yards;
    }
}
