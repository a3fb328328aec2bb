/** Promise 26: fare. */
public final class Promise26FareTest {
    public static void main(String[] args) {
        Due.runTests(Promise26FareTest.class);
    }

    static void nIs1To60ElseBad() {
        Calls.only("fare(n)", Buses::rich, 1, 60, (x, n) -> x.fare(n));
    }

    static void lowestTerms() {
        IdeasDeck x = Buses.of("bus 4; idea 0 4 0 9;");
        for (int n = 1; n <= 60; n++) {
            int common = java.math.BigInteger.valueOf(36).gcd(java.math.BigInteger.valueOf(n)).intValue();
            fraction(x, x.fare(n), 36 / common, n / common);
        }
    }

    static void noLevyIs0By1() {
        for (int n = 1; n <= 60; n++) {
            IdeasDeck x = new IdeasDeck();
            fraction(x, x.fare(n), 0, 1);
        }
    }

    static void wholeIsBy1() {
        IdeasDeck x = Buses.of("bus 4; idea 0 4 0 9;");
        fraction(x, x.fare(1), 36, 1);
        fraction(x, x.fare(36), 1, 1);
    }

    static void theLevyAtTheEndNotNow() {
        IdeasDeck x = Buses.of("bus 4; idea 0 4 0 9;");
        x.drive(1);
        fraction(x, x.fare(7), 36, 7);
        x.puts(0);
        fraction(x, x.fare(7), 4, 7);
        x.drive(9);
        fraction(x, x.fare(7), 4, 7);
    }

    static void theMostThatCanBe() {
        IdeasDeck x = new IdeasDeck();
        x.bus(7);
        for (int i = 0; i < 7; i++) x.idea(2, 9, 0, 9);
        fraction(x, x.fare(1), 819, 1);
        fraction(x, x.fare(60), 273, 20);
    }

    static void onlyTheFractionChanges() {
        IdeasDeck x = Buses.rich();
        x.fare(59);
        fraction(x, x.fare(7), 59, 7);
        Due.isTrue("all else stays", Probe.of(x).equals(Probe.of(Buses.rich())));
    }

    private static void fraction(IdeasDeck x, int answer, long above, long below) {
        Due.is("the answer", answer, 1);
        Due.is("above", x.part(0), above);
        Due.is("below", x.part(1), below);
    }
}
