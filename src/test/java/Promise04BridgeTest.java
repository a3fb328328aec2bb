/** Promise 4: bridge. */
public final class Promise04BridgeTest {
    public static void main(String[] args) {
        Due.runTests(Promise04BridgeTest.class);
    }

    static void stopIs0To9ElseBad() {
        Calls.only("bridge(s, 3)", Buses::rich, 0, 9, (x, s) -> x.bridge(s, 3));
    }

    static void heightIs0To9ElseBad() {
        Calls.only("bridge(4, height)", Buses::rich, 0, 9, (x, height) -> x.bridge(4, height));
    }

    static void bothWrongIsRefusedOnce() {
        Calls.bad("bridge(10, 10)", x -> x.bridge(10, 10));
    }

    static void answersWhatItWas() {
        IdeasDeck x = new IdeasDeck();
        for (int s = 0; s <= 9; s++) {
            Due.is("none", x.bridge(s, 9), 0);
            Due.is("9", x.bridge(s, 1), 9);
            Due.is("1", x.bridge(s, s), 1);
        }
        for (int s = 0; s <= 9; s++) Due.is("each its own", x.bridge(s, 0), s);
    }

    static void height0IsNone() {
        IdeasDeck x = Buses.of("bus 4; bridge 0 1; idea 3 5 0 9;");
        Due.is("scraped", x.end(0), 1);
        Due.is("bridge(0, 0)", x.bridge(0, 0), 1);
        Due.is("no bridge", x.count(3), 0);
        Due.is("not scraped", x.end(0), 0);
        Due.is("it was none", x.bridge(0, 0), 0);
    }

    static void itIsBehindItsStop() {
        for (int s = 0; s <= 9; s++) {
            IdeasDeck x = Buses.of("bus 4; idea 0 5 0 9;");
            x.bridge(s, 1);
            Due.is("levy with a bridge behind " + s, x.end(2), 5 * Math.min(s, 9));
            // Behind the last stop nobody is up any more.
            Due.is("scraped with a bridge behind " + s, x.end(0), s == 9 ? 0 : 1);
        }
    }

    static void behindAStopThatIsPassedItScrapesNobody() {
        IdeasDeck x = Buses.of("bus 4; idea 0 5 0 9;");
        x.drive(2);
        x.bridge(1, 1);
        Due.is("scraped", x.end(0), 0);
        Due.is("up", x.now(1), 1);
    }

    static void noneMayBeUndoneBehindIt() {
        IdeasDeck x = Buses.ridden();
        x.bridge(8, 3);
        Due.is("count(5)", x.count(5), 0);
        Due.is("undo()", x.undo(), IdeasDeck.NO);
    }

    static void noneMayBeUndoneThoughItWasTheSame() {
        IdeasDeck x = Buses.ridden();
        Due.is("bridge(5, 2)", x.bridge(5, 2), 2);
        Due.is("undo()", x.undo(), IdeasDeck.NO);
    }

    static void noneMayBeUndoneThoughNoneWasThere() {
        IdeasDeck x = Buses.ridden();
        Due.is("bridge(8, 0)", x.bridge(8, 0), 0);
        Due.is("undo()", x.undo(), IdeasDeck.NO);
    }

    static void onlyTheBridgeAndWhatMayBeUndoneChange() {
        IdeasDeck x = Buses.rich();
        Due.is("bridge(9, 9)", x.bridge(9, 9), 0);
        long[] counts = {5, 2, 1, 3, 2, 0, 6};
        for (int what = 0; what <= 6; what++) Due.is("count(" + what + ")", x.count(what), counts[what]);
        long[] now = {3, 9, 2, 16, 25};
        for (int what = 0; what <= 4; what++) Due.is("now(" + what + ")", x.now(what), now[what]);
    }
}
