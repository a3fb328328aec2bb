/** Promise 20: raise. */
public final class Promise20RaiseTest {
    public static void main(String[] args) {
        Due.runTests(Promise20RaiseTest.class);
    }

    static void noIdeasBy0() {
        Calls.asks("raise()", IdeasDeck::new, 0, x -> x.raise());
        raise("bus 4; bridge 0 1; bridge 9 1;", 0);
    }

    static void noBridgesBy0() {
        raise("bus 4; idea 3 1 0 9; idea 4 1 0 9;", 0);
    }

    static void nobodyScrapedBy0() {
        raise("bus 1; bridge 0 5; idea 3 1 0 9;", 0);
        raise("bus 1; bridge 0 1; idea 3 1 1 9;", 0);
        raise("bus 1; bridge 9 1; idea 3 1 0 9;", 0);
    }

    static void byAsMuchAsTheTallestIsTaller() {
        raise("bus 1; bridge 0 4; idea 3 1 0 9;", 1);
        raise("bus 1; bridge 0 3; idea 3 1 0 9;", 2);
        raise("bus 1; bridge 0 2; idea 3 1 0 9;", 3);
        raise("bus 1; bridge 0 1; idea 3 1 0 9;", 4);
        raise("bus 1; bridge 0 1; idea 0 1 0 9;", 2);
        raise("bus 1; bridge 0 1; idea 1 1 0 9;", 1);
        raise("bus 1; bridge 0 1; idea 5 1 0 9;", 3);
        raise("bus 1; bridge 8 1; idea 4 1 0 9;", 3);
    }

    static void eachByAsMuchOver9Too() {
        raise("bus 1; bridge 0 9; bridge 1 1; idea 3 1 0 9;", 4);
    }

    static void whereNoneIsNoneIsRaised() {
        raise("bus 1; bridge 4 2; idea 3 1 0 4; idea 1 1 4 5;", 0);
    }

    static void whoIsNotScrapedThenTakesRoom() {
        // Raised by 2 the plain one stays up, and the doubt finds no room.
        raise("bus 1; bridge 0 2; bridge 1 1; idea 0 1 0 9; idea 3 1 1 9;", 2);
    }

    static void whoIsNotScrapedThenMayBeScrapedLater() {
        // The doubt passes the first bridge by 1, and needs 4 at the second.
        raise("bus 1; bridge 0 4; bridge 1 1; idea 3 1 0 9;", 4);
    }

    static void theBridgesStayAsTheyAre() {
        IdeasDeck x = Buses.of("bus 1; bridge 0 1; idea 3 1 0 9;");
        x.raise();
        Due.is("scraped", x.end(0), 1);
        Due.is("levy", x.end(2), 0);
        Due.is("days", x.days(0, 1), 0);
        Due.is("the height", x.bridge(0, 0), 1);
    }

    static void nothingIsChanged() {
        // The doubt passes the first bridge by 1, and then needs 3 over the second one's 2.
        Calls.asks("raise()", Buses::rich, 3, x -> x.raise());
    }

    static void aJourneyFromStop0WithNobodyUp() {
        IdeasDeck x = Buses.of("bus 1; bridge 0 1; idea 3 1 0 9;");
        x.drive(1);
        Due.is("behind a stop", x.raise(), 4);
        x.drive(9);
        Due.is("when it is over", x.raise(), 4);
    }

    private static void raise(String text, long due) {
        IdeasDeck x = Buses.of(text);
        Due.is("raise() of " + text, x.raise(), due);
    }
}
