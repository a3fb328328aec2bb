/** Objects that the tests begin with. Each is made anew, and with so few calls that 512 are far. */
final class Buses {
    private Buses() {
    }

    /** A bus told by a text; the text is empty then, and nothing was refused. */
    static IdeasDeck of(String text) {
        IdeasDeck x = new IdeasDeck();
        tell(x, text);
        if (x.read() < 0) throw new IllegalStateException("a test's own text can not be read: " + text);
        x.clear();
        return x;
    }

    /** Puts a text in the place of the old one. */
    static void tell(IdeasDeck x, String text) {
        x.clear();
        for (int i = 0; i < text.length(); i++) x.type(text.charAt(i));
    }

    /**
     * Five ideas behind three stops: THE STOP 3, UP 0 and 3, SCRAPED 1, LEFT 4, THE LEVY 25; two notes, two bridges,
     * a quarrel of 0 with 4, four things that may be undone. No images, no text, THE FRACTION 0 by 1.
     */
    static IdeasDeck ridden() {
        return ride(false);
    }

    /** As ridden, and image 1 of it at stop 0, image 0 of it at stop 2, the text bus 3; and THE FRACTION 59 by 7. */
    static IdeasDeck rich() {
        IdeasDeck x = ride(true);
        tell(x, "bus 3;");
        x.fare(7);
        return x;
    }

    private static IdeasDeck ride(boolean withImages) {
        IdeasDeck x = new IdeasDeck();
        x.bus(2);
        x.bridge(0, 4);
        x.bridge(5, 2);
        x.idea(0, 5, 0, 9);
        x.idea(3, 4, 0, 8);
        x.idea(2, 3, 1, 6);
        x.idea(1, 7, 2, 9);
        x.idea(0, 2, 2, 4);
        x.quarrel(0, 4, 1);
        if (withImages) x.image(1);
        x.note(0, 0, 5, 3);
        x.note(2, 3, 6, 3);
        x.drive(1);
        x.drive(1);
        x.puts(2);
        if (withImages) x.image(0);
        x.drive(1);
        return x;
    }

    /** Seven ideas, six notes, 150 bytes of text; three things that may be undone; THE STOP 3, all but 6 up. */
    static IdeasDeck full() {
        IdeasDeck x = new IdeasDeck();
        x.bus(7);
        for (int i = 0; i < 7; i++) x.idea(i % 6, i + 1, 0, 9);
        for (int n = 0; n < 6; n++) x.note(n, n, n, n);
        for (int n = 0; n < 150; n++) x.type(n < 75 ? ' ' : 'b');
        x.drive(1);
        x.drive(2);
        x.puts(6);
        return x;
    }

    /** The journey is over; two things may be undone. */
    static IdeasDeck over() {
        IdeasDeck x = of("bus 2; idea 0 5 0 9; idea 3 4 1 8;");
        x.drive(4);
        x.drive(6);
        return x;
    }
}
