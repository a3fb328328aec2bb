/** Promise 33: status, and what is counted as refused. */
public final class Promise33StatusTest {
    public static void main(String[] args) {
        Due.runTests(Promise33StatusTest.class);
    }

    static void anotherWhatIsMinus1AndCountsAsBad() {
        Calls.only("status(what)", Buses::rich, 0, 2, -1, (x, what) -> x.status(what));
    }

    static void answersByReason() {
        IdeasDeck x = Buses.full();
        x.now(5);
        for (int n = 0; n < 2; n++) x.puts(6);
        for (int n = 0; n < 3; n++) x.type(32);
        Due.is("bad", x.status(0), 1);
        Due.is("no", x.status(1), 2);
        Due.is("full", x.status(2), 3);
    }

    static void askingIsNotCounted() {
        for (int what = 0; what <= 2; what++) {
            int one = what;
            Calls.asks("status(" + what + ")", Buses::rich, 0, x -> x.status(one));
        }
    }

    static void everyBadIsCounted() {
        Calls.Call[] calls = {x -> x.bus(0), x -> x.room(0), x -> x.bridge(10, 0), x -> x.idea(6, 1, 0, 1),
            x -> x.quarrel(0, 0, 1), x -> x.type(-1), x -> x.drive(0), x -> x.puts(5), x -> x.of(5, 0),
            x -> x.sways(0, 10, 0), x -> x.now(5), x -> x.then(2, 0), x -> x.end(3), x -> x.upstairs(0, 201, 0),
            x -> x.note(0, 0, 41, 0), x -> x.is(5), x -> x.look(5), x -> x.fare(0), x -> x.bell(11), x -> x.days(0, 61),
            x -> x.part(2), x -> x.image(2), x -> x.from(2), x -> x.count(7)};
        IdeasDeck x = Buses.rich();
        for (int n = 0; n < calls.length; n++) {
            Due.is("call " + n, calls[n].on(x), IdeasDeck.BAD);
            Due.is("bad behind call " + n, x.status(0), n + 1);
        }
        Due.is("no", x.status(1), 0);
        Due.is("full", x.status(2), 0);
    }

    static void otherAnswersToldAsBadAreCounted() {
        IdeasDeck x = Buses.rich();
        Due.is("decks(5)", x.decks(5), -10);
        Due.is("two(0, 0, 0)", x.two(0, 0, 0), -10);
        Due.is("status(3)", x.status(3), -1);
        Due.is("bad", x.status(0), 3);
    }

    static void everyNoIsCounted() {
        IdeasDeck x = Buses.over();
        Due.is("drive(1)", x.drive(1), IdeasDeck.NO);
        Due.is("puts(0)", x.puts(0), IdeasDeck.NO);
        Due.is("from(0)", x.from(0), IdeasDeck.NO);
        x.room(2);
        Due.is("undo()", x.undo(), IdeasDeck.NO);
        Due.is("bad", x.status(0), 0);
        Due.is("no", x.status(1), 4);
        Due.is("full", x.status(2), 0);
    }

    static void everyFullIsCounted() {
        IdeasDeck x = Buses.full();
        Due.is("idea", x.idea(0, 1, 0, 1), IdeasDeck.FULL);
        Due.is("type", x.type(32), IdeasDeck.FULL);
        Due.is("note", x.note(0, 0, 0, 0), IdeasDeck.FULL);
        Due.is("bad", x.status(0), 0);
        Due.is("no", x.status(1), 0);
        Due.is("full", x.status(2), 3);
    }

    static void answersNotToldSoAreNotCounted() {
        IdeasDeck x = Buses.rich();
        x.clear();
        Due.is("a fault", x.read(), -10);
        Due.is("not so many", x.two(0, 1, 99), -5);
        Due.is("no set", x.upstairs(0, 200, 1), IdeasDeck.NONE);
        x.note(0, 0, 0, 0);
        Due.is("no kind", x.look(0), IdeasDeck.NONE);
        x.bus(4);
        Due.is("none better", x.better(), IdeasDeck.NONE);
        for (int what = 0; what <= 2; what++) Due.is("status(" + what + ")", x.status(what), 0);
    }

    static void itStaysThroughBusReadFromAndUndo() {
        IdeasDeck x = Buses.rich();
        x.now(5);
        x.puts(4);
        x.undo();
        x.from(0);
        x.read();
        x.bus(1);
        Due.is("bad", x.status(0), 1);
        Due.is("no", x.status(1), 1);
        Due.is("full", x.status(2), 0);
    }

    static void manyRefused() {
        IdeasDeck x = new IdeasDeck();
        for (int n = 0; n < 300; n++) x.undo();
        Due.is("no", x.status(1), 300);
    }
}
