/** Promise 16: then. */
public final class Promise16ThenTest {
    private static final String TWO = "bus 4; idea 0 4 1 3; idea 2 3 2 9;";

    public static void main(String[] args) {
        Due.runTests(Promise16ThenTest.class);
    }

    static void stopIsFromTheStopTo9ElseBad() {
        for (int at = 0; at <= 9; at++) {
            int stop = at;
            Calls.only("then(s, 0) at stop " + at, () -> at(stop), at, 9, (x, s) -> x.then(s, 0));
        }
    }

    static void everyStopIsBadWhenItIsOver() {
        for (int s = -1; s <= 11; s++) {
            int stop = s;
            Calls.bad("then(" + s + ", 0)", Buses::over, x -> x.then(stop, 0));
        }
    }

    static void whatIs0To2ElseBad() {
        Calls.only("then(3, what)", Buses::rich, 0, 2, (x, what) -> x.then(3, what));
    }

    static void bothWrongIsRefusedOnce() {
        Calls.bad("then(2, 3)", x -> x.then(2, 3));
    }

    private static IdeasDeck at(int stop) {
        IdeasDeck x = Buses.of(TWO);
        if (stop > 0) x.drive(stop);
        return x;
    }

    static void answersBehindEachStop() {
        int[] ups = {0, 1, 3, 2, 2, 2, 2, 2, 2, 0};
        int[] sways = {0, 4, 7, 6, 3, 6, 3, 6, 3, 0};
        int[] levies = {0, 4, 11, 17, 20, 26, 29, 35, 38, 38};
        for (int at = 0; at <= 9; at++) {
            IdeasDeck x = at(at);
            for (int s = at; s <= 9; s++) {
                Due.is("up behind " + s, x.then(s, 0), ups[s]);
                Due.is("sway behind " + s, x.then(s, 1), sways[s]);
                Due.is("levy behind " + s, x.then(s, 2), levies[s]);
            }
        }
    }

    static void sevenIdeasEachAtItsStop() {
        IdeasDeck x = new IdeasDeck();
        x.bus(7);
        for (int i = 0; i < 7; i++) x.idea(0, 1, i + 1, 9);
        for (int s = 0; s <= 8; s++) Due.is("up behind " + s, x.then(s, 0), (1 << Math.min(s, 7)) - 1);
    }

    static void nothingIsChanged() {
        Calls.asks("then(9, 0)", Buses::rich, 0, x -> x.then(9, 0));
        Calls.asks("then(3, 0)", Buses::rich, 9, x -> x.then(3, 0));
        Calls.asks("then(5, 1)", Buses::rich, 4, x -> x.then(5, 1));
        Calls.asks("then(5, 2)", Buses::rich, 47, x -> x.then(5, 2));
    }

    static void itGoesOnFromWhoIsUpNow() {
        IdeasDeck x = Buses.of(TWO);
        x.drive(3);
        x.puts(1);
        Due.is("nobody", x.then(3, 0), 0);
        Due.is("no more", x.then(9, 2), 11);
    }

    static void theMostThatCanSway() {
        IdeasDeck x = new IdeasDeck();
        x.bus(7);
        for (int i = 0; i < 7; i++) x.idea(2, 9, 0, 9);
        Due.is("up", x.then(7, 0), 127);
        Due.is("sway", x.then(7, 1), 126);
        Due.is("levy", x.then(9, 2), 819);
    }

    static void noIdeas() {
        for (int s = 0; s <= 9; s++) {
            for (int what = 0; what <= 2; what++) Due.is("then", new IdeasDeck().then(s, what), 0);
        }
    }
}
