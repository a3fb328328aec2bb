/** Promise 30: part, and THE FRACTION. */
public final class Promise30PartTest {
    public static void main(String[] args) {
        Due.runTests(Promise30PartTest.class);
    }

    static void whatIs0Or1ElseBad() {
        Calls.only("part(what)", Buses::rich, 0, 1, (x, what) -> x.part(what));
        Calls.only("part(what)", IdeasDeck::new, 0, 1, (x, what) -> x.part(what));
    }

    static void aboveAndBelow() {
        Calls.asks("part(0)", Buses::rich, 59, x -> x.part(0));
        Calls.asks("part(1)", Buses::rich, 7, x -> x.part(1));
    }

    static void at0By1AtFirst() {
        Calls.asks("part(0)", IdeasDeck::new, 0, x -> x.part(0));
        Calls.asks("part(1)", IdeasDeck::new, 1, x -> x.part(1));
    }

    static void backTo0By1() {
        IdeasDeck x = Buses.rich();
        x.bell(10);
        Due.is("above", x.part(0), 0);
        Due.is("below", x.part(1), 1);
    }

    static void refusedFareAndBellLeaveIt() {
        IdeasDeck x = Buses.rich();
        x.fare(0);
        x.fare(61);
        x.bell(-1);
        x.bell(11);
        Due.is("above", x.part(0), 59);
        Due.is("below", x.part(1), 7);
    }

    static void itStaysWhenTheBusChanges() {
        IdeasDeck x = Buses.rich();
        x.room(7);
        x.idea(0, 9, 3, 9);
        x.drive(7);
        x.undo();
        x.image(0);
        x.from(1);
        Due.is("above", x.part(0), 59);
        Due.is("below", x.part(1), 7);
    }
}
