/** Promise 15: now. */
public final class Promise15NowTest {
    public static void main(String[] args) {
        Due.runTests(Promise15NowTest.class);
    }

    static void whatIs0To4ElseBad() {
        Calls.only("now(what)", Buses::rich, 0, 4, (x, what) -> x.now(what));
        Calls.only("now(what)", IdeasDeck::new, 0, 4, (x, what) -> x.now(what));
    }

    static void answersOfEach() {
        long[] due = {3, 9, 2, 16, 25};
        for (int w = 0; w <= 4; w++) {
            int what = w;
            Calls.asks("now(" + what + ")", Buses::rich, due[what], x -> x.now(what));
        }
    }

    static void allSevenAsBits() {
        IdeasDeck x = new IdeasDeck();
        x.bus(7);
        for (int i = 0; i < 7; i++) x.idea(0, 1, 0, 9);
        x.bridge(1, 1);
        x.drive(1);
        Due.is("up", x.now(1), 127);
        x.drive(1);
        Due.is("up", x.now(1), 0);
        Due.is("scraped", x.now(2), 127);
        Due.is("left", x.now(3), 0);
        Due.is("levy", x.now(4), 7);
    }

    static void whenItIsOver() {
        IdeasDeck x = Buses.over();
        long[] due = {10, 0, 0, 0, 9 * 5 + 7 * 4};
        for (int what = 0; what <= 4; what++) Due.is("now(" + what + ")", x.now(what), due[what]);
    }
}
