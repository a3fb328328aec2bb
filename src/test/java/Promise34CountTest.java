/** Promise 34: count. */
public final class Promise34CountTest {
    public static void main(String[] args) {
        Due.runTests(Promise34CountTest.class);
    }

    static void whatIs0To6ElseBad() {
        Calls.only("count(what)", Buses::rich, 0, 6, (x, what) -> x.count(what));
        Calls.only("count(what)", IdeasDeck::new, 0, 6, (x, what) -> x.count(what));
    }

    static void nothingIsChanged() {
        long[] due = {5, 2, 1, 2, 2, 4, 6};
        for (int w = 0; w <= 6; w++) {
            int what = w;
            Calls.asks("count(" + what + ")", Buses::rich, due[what], x -> x.count(what));
        }
    }

    static void asManyAsCanBe() {
        IdeasDeck x = Buses.full();
        for (int a = 0; a < 7; a++) {
            for (int b = 0; b < a; b++) x.quarrel(a, b, 1);
        }
        for (int s = 0; s <= 9; s++) x.bridge(s, 9);
        for (int n = 0; n < 7; n++) x.drive(1);
        long[] due = {7, 7, 21, 10, 6, 7, 150};
        for (int what = 0; what <= 6; what++) Due.is("count(" + what + ")", x.count(what), due[what]);
    }

    static void aBridgeTakenAwayIsNone() {
        IdeasDeck x = Buses.rich();
        x.bridge(0, 0);
        Due.is("count(3)", x.count(3), 1);
        x.bridge(5, 0);
        Due.is("count(3)", x.count(3), 0);
    }

    static void aQuarrelIsOfTwo() {
        IdeasDeck x = Buses.of("bus 5; idea 0 5 0 9; idea 1 5 0 9; idea 1 1 0 1; quarrel 0 1; quarrel 2 1; quarrel 1 0;");
        Due.is("count(2)", x.count(2), 2);
        x.quarrel(1, 0, 0);
        Due.is("count(2)", x.count(2), 1);
    }
}
