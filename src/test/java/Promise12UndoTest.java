/** Promise 12: undo, and what may be undone. */
public final class Promise12UndoTest {
    public static void main(String[] args) {
        Due.runTests(Promise12UndoTest.class);
    }

    static void noneMayBeOnANewOne() {
        Calls.no("undo()", IdeasDeck::new, x -> x.undo());
    }

    static void noneMayBeBehindTheFirstThatWas() {
        Calls.no("undo()", Promise12UndoTest::allUndone, x -> x.undo());
    }

    private static IdeasDeck allUndone() {
        IdeasDeck x = Buses.rich();
        for (int n = 0; n < 4; n++) x.undo();
        return x;
    }

    static void noneMayBeBehindAnIdeaThatComes() {
        Calls.no("undo()", () -> behind(x -> x.idea(0, 1, 0, 1)), x -> x.undo());
    }

    static void noneMayBeBehindAQuarrel() {
        Calls.no("undo()", () -> behind(x -> x.quarrel(1, 2, 1)), x -> x.undo());
        Calls.no("undo()", () -> behind(x -> x.quarrel(0, 4, 0)), x -> x.undo());
    }

    static void noneMayBeBehindABridge() {
        Calls.no("undo()", () -> behind(x -> x.bridge(3, 3)), x -> x.undo());
        Calls.no("undo()", () -> behind(x -> x.bridge(5, 0)), x -> x.undo());
    }

    static void noneMayBeBehindRoom() {
        Calls.no("undo()", () -> behind(x -> x.room(7)), x -> x.undo());
    }

    static void noneMayBeBehindABus() {
        Calls.no("undo()", () -> behind(x -> x.bus(2)), x -> x.undo());
    }

    static void noneMayBeBehindABusThatIsRead() {
        Calls.no("undo()", () -> behind(x -> x.read()), x -> x.undo());
    }

    private static IdeasDeck behind(Calls.Call c) {
        IdeasDeck x = Buses.rich();
        Due.isTrue("it is not refused", c.on(x) >= 0);
        return x;
    }

    static void refusedCallsLeaveWhatMayBeUndone() {
        IdeasDeck x = Buses.rich();
        x.idea(6, 1, 0, 1);
        x.quarrel(0, 0, 1);
        x.bridge(10, 1);
        x.room(8);
        x.bus(8);
        x.drive(8);
        x.puts(4);
        x.from(2);
        Due.is("count(5)", x.count(5), 4);
        Due.is("undo()", x.undo(), 2);
    }

    static void otherCallsLeaveWhatMayBeUndone() {
        IdeasDeck x = Buses.rich();
        x.note(0, 0, 0, 0);
        x.forget();
        x.type(';');
        x.clear();
        x.read();
        x.fare(3);
        x.bell(3);
        x.image(0);
        x.days(3, 3);
        x.better();
        x.raise();
        x.two(0, 1, -1);
        x.decks(-1);
        Due.is("count(5)", x.count(5), 4);
        Due.is("undo()", x.undo(), 2);
    }

    static void allIsAsAheadOfIt() {
        IdeasDeck x = Buses.ridden();
        long[][] due = {{2, 1, 2, 0, 16}, {2, 5, 2, 0, 16}, {1, 1, 2, 0, 5}, {0, 0, 0, 0, 0}};
        for (int n = 0; n < due.length; n++) {
            Due.is("undo()", x.undo(), due[n][0]);
            for (int what = 0; what <= 4; what++) Due.is("now(" + what + ")", x.now(what), due[n][what]);
            Due.is("count(5)", x.count(5), 3 - n);
        }
        Due.is("undo()", x.undo(), IdeasDeck.NO);
    }

    static void scrapedAndLeftAreTakenBack() {
        IdeasDeck x = Buses.of("bus 1; bridge 1 2; idea 0 4 0 9; idea 0 5 0 9;");
        x.drive(2);
        Due.is("scraped", x.now(2), 1);
        Due.is("left", x.now(3), 2);
        x.undo();
        Due.is("scraped", x.now(2), 0);
        Due.is("left", x.now(3), 0);
    }

    static void aWholeJourneyMayBeUndone() {
        IdeasDeck x = Buses.of("bus 4; idea 0 4 0 9;");
        x.drive(10);
        Due.is("undo()", x.undo(), 0);
        Due.is("drive(10)", x.drive(10), 36);
    }

    static void eightAtMost() {
        IdeasDeck x = new IdeasDeck();
        for (int stop = 1; stop <= 10; stop++) {
            x.drive(1);
            Due.is("count(5)", x.count(5), Math.min(stop, 8));
        }
        for (int stop = 9; stop >= 2; stop--) Due.is("undo()", x.undo(), stop);
        Due.is("the ninth is gone", x.undo(), IdeasDeck.NO);
        Due.is("the stop stays", x.now(0), 2);
    }

    static void eightAtMostOfIdeasPutOffToo() {
        IdeasDeck x = new IdeasDeck();
        x.bus(7);
        for (int i = 0; i < 7; i++) x.idea(0, 1, 0, 9);
        x.drive(1);
        for (int i = 0; i < 7; i++) x.puts(i);
        Due.is("count(5)", x.count(5), 8);
        x.drive(1);
        Due.is("count(5)", x.count(5), 8);
        Due.is("undo()", x.undo(), 1);
        for (int i = 6; i >= 0; i--) {
            Due.is("undo()", x.undo(), 1);
            Due.is("up", x.now(1), 127 - ((1 << i) - 1));
        }
        Due.is("the first stop is not undone", x.undo(), IdeasDeck.NO);
    }

    static void eightAgainBehindSomeUndone() {
        IdeasDeck x = new IdeasDeck();
        for (int n = 0; n < 10; n++) x.drive(1);
        for (int n = 0; n < 5; n++) x.undo();
        for (int n = 0; n < 5; n++) x.drive(1);
        Due.is("count(5)", x.count(5), 8);
        for (int stop = 9; stop >= 2; stop--) Due.is("undo()", x.undo(), stop);
        Due.is("undo()", x.undo(), IdeasDeck.NO);
    }

    static void undoMayNotBeUndone() {
        IdeasDeck x = Buses.of("bus 4; idea 0 4 0 9;");
        x.drive(1);
        x.undo();
        Due.is("count(5)", x.count(5), 0);
        Due.is("undo()", x.undo(), IdeasDeck.NO);
    }

    static void itGoesOnAnotherWay() {
        IdeasDeck x = Buses.of("bus 4; idea 0 4 0 9;");
        x.drive(1);
        x.drive(5);
        x.undo();
        Due.is("drive(2)", x.drive(2), 8);
        Due.is("undo()", x.undo(), 1);
        Due.is("undo()", x.undo(), 0);
        Due.is("undo()", x.undo(), IdeasDeck.NO);
    }

    static void notesTextAndFractionStay() {
        IdeasDeck x = Buses.rich();
        x.note(0, 0, 0, 0);
        x.type('b');
        x.fare(1);
        x.undo();
        Due.is("notes", x.count(4), 3);
        Due.is("bytes", x.count(6), 7);
        Due.is("above", x.part(0), 59);
        Due.is("below", x.part(1), 1);
        x.undo();
        Due.is("notes", x.count(4), 3);
    }
}
