/** Promise 28: bell. */
public final class Promise28BellTest {
    public static void main(String[] args) {
        Due.runTests(Promise28BellTest.class);
    }

    static void cIs0To10ElseBad() {
        Calls.only("bell(c)", Buses::rich, 0, 10, (x, c) -> x.bell(c));
    }

    static void nobodyUpIs0By1() {
        for (int c = 0; c <= 10; c++) {
            IdeasDeck x = Buses.of("bus 4; idea 0 4 1 9;");
            x.drive(1);
            fraction(x, x.bell(c), 0, 1);
        }
    }

    static void by0AllStay() {
        IdeasDeck x = Buses.rich();
        fraction(x, x.bell(0), 9, 1);
    }

    static void by10AllGetOff() {
        IdeasDeck x = Buses.rich();
        fraction(x, x.bell(10), 0, 1);
    }

    static void inTheMeanInLowestTerms() {
        // Nine sway: 90 .. 0 by 10.
        long[][] due = {{9, 1}, {81, 10}, {36, 5}, {63, 10}, {27, 5}, {9, 2}, {18, 5}, {27, 10}, {9, 5}, {9, 10}, {0, 1}};
        for (int c = 0; c <= 10; c++) {
            IdeasDeck x = Buses.rich();
            fraction(x, x.bell(c), due[c][0], due[c][1]);
        }
    }

    static void behindTheStopToCome() {
        IdeasDeck x = Buses.of("bus 4; idea 0 4 0 9; idea 2 3 0 9;");
        for (int stop = 1; stop <= 9; stop++) {
            x.drive(1);
            fraction(x, x.bell(0), stop % 2 == 1 ? 10 : 7, 1);
        }
    }

    static void thoseWhoAreToComeDoNotCount() {
        IdeasDeck x = Buses.of("bus 4; idea 0 4 0 9; idea 0 9 1 9;");
        x.drive(1);
        fraction(x, x.bell(5), 2, 1);
    }

    static void stop9IfItIsOver() {
        for (int c = 0; c <= 10; c++) {
            IdeasDeck x = Buses.over();
            fraction(x, x.bell(c), 0, 1);
        }
    }

    static void theMostThatCanBe() {
        IdeasDeck x = new IdeasDeck();
        x.bus(7);
        for (int i = 0; i < 7; i++) x.idea(2, 9, 0, 9);
        x.drive(1);
        fraction(x, x.bell(0), 126, 1);
        fraction(x, x.bell(1), 567, 5);
    }

    static void onlyTheFractionChanges() {
        IdeasDeck x = Buses.rich();
        fraction(x, x.bell(3), 63, 10);
        Due.is("up", x.now(1), 9);
        x.fare(7);
        Due.isTrue("all else stays", Probe.of(x).equals(Probe.of(Buses.rich())));
    }

    private static void fraction(IdeasDeck x, int answer, long above, long below) {
        Due.is("the answer", answer, 1);
        Due.is("above", x.part(0), above);
        Due.is("below", x.part(1), below);
    }
}
