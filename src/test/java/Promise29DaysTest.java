import java.math.BigInteger;

/** Promise 29: days. */
public final class Promise29DaysTest {
    public static void main(String[] args) {
        Due.runTests(Promise29DaysTest.class);
    }

    static void seedIs0To999999ElseBad() {
        Calls.only("days(seed, 1)", Buses::rich, 0, 999999, (x, seed) -> x.days(seed, 1));
        Calls.only("days(seed, 0)", Buses::rich, 0, 999999, (x, seed) -> x.days(seed, 0));
    }

    static void nIs0To60ElseBad() {
        Calls.only("days(7, n)", Buses::rich, 0, 60, (x, n) -> x.days(7, n));
    }

    static void bothWrongIsRefusedOnce() {
        Calls.bad("days(-1, -1)", x -> x.days(-1, -1));
    }

    static void noDaysIs0() {
        Calls.asks("days(0, 0)", Buses::rich, 0, x -> x.days(0, 0));
        Calls.asks("days(999999, 0)", Buses::rich, 0, x -> x.days(999999, 0));
    }

    static void noIdeasIs0() {
        Calls.asks("days(5, 60)", IdeasDeck::new, 0, x -> x.days(5, 60));
    }

    static void byHand() {
        IdeasDeck x = Buses.of("bus 4; idea 0 4 5 9;");
        // X is 12345 by seed 0: by 65536 cut 0, so on at 0: nine stops of 4.
        Due.is("a day", x.days(0, 1), 36);
        // Then 12345 * 1103515245 + 12345, by 2^31: 1406932606; by 65536: 21468; by 9: 3: six stops.
        Due.is("two days", x.days(0, 2), 36 + 24);
    }

    static void xGoesOnFromIdeaToIdea() {
        // 12345 and 1406932606: on at 0 and at 21468 by 4, 0.
        Due.is("two ideas", Buses.of("bus 4; idea 0 4 5 9; idea 0 1 3 4;").days(0, 1), 36 + 4);
        Due.is("two ideas, room for one", Buses.of("bus 1; idea 0 4 5 9; idea 0 1 3 4;").days(0, 1), 36);
    }

    static void xGoesOnFromDayToDayAndIsLeftOver() {
        for (int seed : new int[] {0, 1, 7, 65535, 65536, 500000, 999998, 999999}) {
            for (int off = 1; off <= 9; off++) {
                IdeasDeck x = new IdeasDeck();
                x.idea(0, 4, 0, off);
                Due.is("days(" + seed + ", 60) by " + off, x.days(seed, 60), alone(seed, 60, 4, off));
                Due.is("days(" + seed + ", 59) by " + off, x.days(seed, 59), alone(seed, 59, 4, off));
            }
        }
    }

    /** One plain idea alone: it pays its feet for each stop from where it gets on. */
    private static long alone(long seed, int n, int feet, int off) {
        BigInteger x = BigInteger.valueOf(seed);
        long all = 0;
        for (int day = 0; day < n; day++) {
            x = x.multiply(BigInteger.valueOf(1103515245)).add(BigInteger.valueOf(12345));
            x = x.mod(BigInteger.valueOf(2147483648L));
            all += feet * (off - x.longValue() / 65536 % off);
        }
        return all;
    }

    static void anOffOf1IsOnAt0() {
        Due.is("days(999999, 60)", Buses.of("bus 4; idea 0 4 0 1;").days(999999, 60), 240);
    }

    static void bridgesRoomAndQuarrelsHold() {
        Due.is("a bridge", Buses.of("bus 4; bridge 0 1; idea 0 4 0 1;").days(3, 60), 0);
        Due.is("no room", Buses.of("bus 1; idea 0 4 0 1; idea 0 9 0 1;").days(3, 60), 240);
        Due.is("a quarrel", Buses.of("bus 4; idea 0 4 0 1; idea 0 9 0 1; quarrel 0 1;").days(3, 60), 240);
        Due.is("no quarrel", Buses.of("bus 4; idea 0 4 0 1; idea 0 9 0 1;").days(3, 60), 780);
    }

    static void aJourneyFromStop0WithNobodyUp() {
        IdeasDeck x = Buses.of("bus 1; idea 0 4 5 9;");
        x.drive(6);
        Due.is("behind six stops", x.days(0, 2), 60);
        x.drive(4);
        Due.is("when it is over", x.days(0, 2), 60);
    }

    static void theSeedIsEachTimeAnew() {
        IdeasDeck x = Buses.of("bus 4; idea 0 4 5 9;");
        int first = x.days(7, 13);
        Due.is("again", x.days(7, 13), first);
    }

    static void nothingIsChanged() {
        IdeasDeck x = Buses.rich();
        int due = x.days(7, 60);
        Calls.asks("days(7, 60)", Buses::rich, due, y -> y.days(7, 60));
        Due.is("where they get on", x.of(0, 2) + x.of(2, 2) + x.of(3, 2), 0 + 1 + 2);
    }
}
