/** Promise 32: from, and what images keep. */
public final class Promise32FromTest {
    public static void main(String[] args) {
        Due.runTests(Promise32FromTest.class);
    }

    static void iIs0Or1ElseBad() {
        Calls.only("from(i)", Buses::rich, 0, 1, (x, i) -> x.from(i));
        // Where none was kept these are BAD all the same, ahead of NO.
        Calls.only("from(i)", Buses::ridden, 0, 1, (x, i) -> x.from(i));
    }

    static void noIfNoneWasKept() {
        Calls.no("from(0)", Buses::ridden, x -> x.from(0));
        Calls.no("from(1)", Buses::ridden, x -> x.from(1));
        Calls.no("from(0)", IdeasDeck::new, x -> x.from(0));
    }

    static void noIfOnlyTheOtherWasKept() {
        for (int i = 0; i <= 1; i++) {
            int one = i;
            Calls.no("from(" + (1 - i) + ")", () -> withImage(one), x -> x.from(1 - one));
        }
    }

    private static IdeasDeck withImage(int i) {
        IdeasDeck x = Buses.ridden();
        x.image(i);
        return x;
    }

    static void answers1() {
        Due.is("from(0)", Buses.rich().from(0), 1);
        Due.is("from(1)", Buses.rich().from(1), 1);
    }

    static void keepsAllOfTheBus() {
        for (int i = 0; i <= 1; i++) {
            IdeasDeck x = Buses.ridden();
            x.image(i);
            changeAll(x);
            Due.is("from(" + i + ")", x.from(i), 1);
            IdeasDeck y = Buses.ridden();
            y.image(i);
            Due.isTrue("as it was", Probe.of(x).equals(Probe.of(y)));
        }
    }

    static void keepsAsMuchAsCanBe() {
        for (int i = 0; i <= 1; i++) {
            IdeasDeck x = asMuchAsCanBe();
            x.image(i);
            changeAll(x);
            Due.is("from(" + i + ")", x.from(i), 1);
            IdeasDeck y = asMuchAsCanBe();
            y.image(i);
            Due.isTrue("as it was", Probe.of(x).equals(Probe.of(y)));
        }
    }

    /** Seven ideas, all quarrelling, a bridge behind each stop, six notes, eight that may be undone. */
    private static IdeasDeck asMuchAsCanBe() {
        IdeasDeck x = new IdeasDeck();
        for (int k = 0; k < 7; k++) x.idea(k % 6, k + 3, 6 - k, 9 - k / 2);
        for (int s = 0; s <= 9; s++) x.bridge(s, 9 - s % 9);
        for (int b = 0; b < 6; b++) x.quarrel(6, b, 1);
        for (int n = 0; n < 6; n++) x.note(6 - n, n, 10 + n, 9 - n);
        x.drive(2);
        for (int n = 0; n < 8; n++) x.drive(1);
        return x;
    }

    private static void changeAll(IdeasDeck x) {
        x.bus(7);
        for (int s = 0; s <= 9; s++) x.bridge(s, 1 + s % 9);
        for (int k = 0; k < 7; k++) x.idea(5 - k % 6, 9 - k, k, 9);
        for (int b = 1; b < 7; b++) x.quarrel(0, b, 1);
        for (int n = 0; n < 6; n++) x.note(n, 9 - n, 40 - n, n);
        for (int n = 0; n < 10; n++) x.drive(1);
    }

    static void keepsWhatMayBeUndone() {
        IdeasDeck x = Buses.rich();
        x.drive(1);
        x.from(0);
        Due.is("count(5)", x.count(5), 3);
        Due.is("undo()", x.undo(), 2);
        Due.is("put on again", x.now(1), 5);
        Due.is("undo()", x.undo(), 1);
        Due.is("undo()", x.undo(), 0);
        Due.is("undo()", x.undo(), IdeasDeck.NO);
    }

    static void keepsEightThatMayBeUndone() {
        IdeasDeck x = new IdeasDeck();
        for (int n = 0; n < 10; n++) x.drive(1);
        x.image(0);
        for (int n = 0; n < 8; n++) x.undo();
        x.from(0);
        Due.is("count(5)", x.count(5), 8);
        for (int stop = 9; stop >= 2; stop--) Due.is("undo()", x.undo(), stop);
    }

    static void fromItselfMayNotBeUndone() {
        IdeasDeck x = Buses.rich();
        x.from(1);
        Due.is("count(5)", x.count(5), 0);
        Due.is("undo()", x.undo(), IdeasDeck.NO);
    }

    static void doesNotKeepTheText() {
        IdeasDeck x = Buses.rich();
        x.type('x');
        x.from(0);
        Due.is("count(6)", x.count(6), 7);
        Due.is("read()", x.read(), -16);
    }

    static void doesNotKeepTheFraction() {
        IdeasDeck x = Buses.rich();
        x.image(0);
        x.fare(1);
        x.from(0);
        Due.is("above", x.part(0), 59);
        Due.is("below", x.part(1), 1);
    }

    static void doesNotKeepStatus() {
        IdeasDeck x = Buses.rich();
        x.now(9);
        x.puts(4);
        x.puts(4);
        x.from(0);
        Due.is("bad", x.status(0), 1);
        Due.is("no", x.status(1), 2);
        Due.is("full", x.status(2), 0);
    }

    static void doesNotKeepImages() {
        // Image 1 was kept ahead of image 0: it is there still behind from(1), and so is image 0.
        IdeasDeck x = Buses.rich();
        x.from(1);
        Due.is("from(0)", x.from(0), 1);
        Due.is("its stop", x.now(0), 2);
        Due.is("from(1)", x.from(1), 1);
        Due.is("its stop", x.now(0), 0);
    }

    static void theImageStaysAsItWas() {
        IdeasDeck x = Buses.rich();
        x.from(0);
        x.drive(3);
        x.undo();
        x.undo();
        x.note(0, 0, 0, 0);
        x.bridge(3, 3);
        x.quarrel(1, 2, 1);
        x.idea(0, 1, 0, 1);
        x.from(0);
        IdeasDeck y = Buses.rich();
        y.from(0);
        Due.isTrue("as from it at once", Probe.of(x).equals(Probe.of(y)));
    }

    static void itGoesOn() {
        IdeasDeck x = Buses.rich();
        x.from(0);
        Due.is("drive(1)", x.drive(1), 9);
        Due.is("up", x.now(1), 9);
        Due.is("left", x.now(3), 16);
    }
}
