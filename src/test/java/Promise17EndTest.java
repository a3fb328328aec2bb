/** Promise 17: end. */
public final class Promise17EndTest {
    private static final String THREE = "bus 1; bridge 4 2; idea 0 4 0 9; idea 0 3 2 9; idea 0 2 5 6;";

    public static void main(String[] args) {
        Due.runTests(Promise17EndTest.class);
    }

    static void whatIs0To2ElseBad() {
        Calls.only("end(what)", Buses::rich, 0, 2, (x, what) -> x.end(what));
        Calls.only("end(what)", Buses::over, 0, 2, (x, what) -> x.end(what));
    }

    static void answersOfEach() {
        IdeasDeck x = Buses.of(THREE);
        Due.is("scraped", x.end(0), 1);
        Due.is("left", x.end(1), 2);
        Due.is("levy", x.end(2), 4 * 4 + 2);
    }

    static void nothingIsChanged() {
        Calls.asks("end(0)", Buses::rich, 3, x -> x.end(0));
        Calls.asks("end(1)", Buses::rich, 16, x -> x.end(1));
        Calls.asks("end(2)", Buses::rich, 59, x -> x.end(2));
    }

    static void itGoesOnFromWhoIsUpNow() {
        IdeasDeck x = Buses.of(THREE);
        x.drive(1);
        x.puts(0);
        Due.is("scraped", x.end(0), 2);
        Due.is("left", x.end(1), 0);
        Due.is("levy", x.end(2), 4 + 2 * 3 + 2);
    }

    static void whenItIsOver() {
        IdeasDeck x = Buses.of(THREE);
        x.drive(10);
        Due.is("scraped", x.end(0), 1);
        Due.is("left", x.end(1), 2);
        Due.is("levy", x.end(2), 18);
    }

    static void aBridgeToldLateScrapesNobodyThen() {
        IdeasDeck x = Buses.over();
        x.bridge(3, 1);
        Due.is("scraped", x.end(0), 0);
        Due.is("levy", x.end(2), 73);
    }

    static void noIdeas() {
        for (int what = 0; what <= 2; what++) Due.is("end(" + what + ")", new IdeasDeck().end(what), 0);
    }
}
