/** Promise 2: bus. */
public final class Promise02BusTest {
    public static void main(String[] args) {
        Due.runTests(Promise02BusTest.class);
    }

    static void roomIs1To7ElseBad() {
        Calls.only("bus(room)", Buses::rich, 1, 7, (x, room) -> x.bus(room));
    }

    static void tellsTheRoom() {
        for (int room = 1; room <= 7; room++) {
            IdeasDeck x = Buses.rich();
            x.bus(room);
            Due.is("count(1)", x.count(1), room);
        }
    }

    static void answersHowManyIdeasThereWere() {
        Due.is("none", new IdeasDeck().bus(4), 0);
        IdeasDeck x = Buses.full();
        Due.is("seven", x.bus(4), 7);
        Due.is("none any more", x.bus(4), 0);
        x.idea(0, 1, 0, 1);
        Due.is("one", x.bus(4), 1);
    }

    static void allElseIsAsAtFirst() {
        IdeasDeck x = Buses.ridden();
        Due.is("bus(4)", x.bus(4), 5);
        Due.isTrue("as a new one", Probe.of(x).equals(Probe.of(new IdeasDeck())));
    }

    static void allElseIsAsAtFirstBehindTheEnd() {
        IdeasDeck x = Buses.over();
        Due.is("bus(4)", x.bus(4), 2);
        Due.is("the stop", x.now(0), 0);
        Due.is("ten stops are left", x.drive(10), 0);
    }

    static void ideasThatComeThenHaveNoOldQuarrels() {
        IdeasDeck x = Buses.ridden();
        x.bus(4);
        for (int i = 0; i < 5; i++) Due.is("idea", x.idea(0, 1, 0, 1), i);
        for (int i = 0; i < 5; i++) Due.is("of(" + i + ", 5)", x.of(i, 5), 0);
    }

    static void roomForSevenIdeasAgain() {
        IdeasDeck x = Buses.full();
        x.bus(4);
        for (int i = 0; i < 7; i++) Due.is("idea", x.idea(0, 1, 0, 1), i);
        for (int n = 1; n <= 6; n++) Due.is("note", x.note(0, 0, 0, 0), n);
    }

    static void nothingToUndo() {
        IdeasDeck x = Buses.ridden();
        x.bus(2);
        Due.is("undo()", x.undo(), IdeasDeck.NO);
    }

    static void leavesImages() {
        IdeasDeck x = Buses.rich();
        x.bus(7);
        Due.is("from(0)", x.from(0), 1);
        Due.is("its stop", x.now(0), 2);
        Due.is("from(1)", x.from(1), 1);
        Due.is("its ideas", x.count(0), 5);
    }

    static void leavesTheText() {
        IdeasDeck x = Buses.rich();
        x.bus(7);
        Due.is("count(6)", x.count(6), 6);
        Due.is("read()", x.read(), 1);
        Due.is("room", x.count(1), 3);
    }

    static void leavesTheFraction() {
        IdeasDeck x = Buses.rich();
        x.bus(7);
        Due.is("part(0)", x.part(0), 59);
        Due.is("part(1)", x.part(1), 7);
    }

    static void leavesStatus() {
        IdeasDeck x = Buses.full();
        x.now(9);
        x.puts(6);
        x.puts(6);
        x.type(32);
        x.type(32);
        x.type(32);
        x.bus(7);
        for (int what = 0; what <= 2; what++) Due.is("status(" + what + ")", x.status(what), what + 1);
    }
}
