/** Promise 10: drive, and what happens at a stop. */
public final class Promise10DriveTest {
    public static void main(String[] args) {
        Due.runTests(Promise10DriveTest.class);
    }

    static void nIs1To10ElseBad() {
        Calls.only("drive(n) at stop 0", IdeasDeck::new, 1, 10, (x, n) -> x.drive(n));
        // Later there are not so many left, but these are BAD all the same.
        Calls.only("drive(n) at stop 3", Buses::rich, 1, 10, (x, n) -> x.drive(n));
    }

    static void badAheadOfNo() {
        Calls.bad("drive(0)", Buses::over, x -> x.drive(0));
        Calls.bad("drive(11)", Buses::over, x -> x.drive(11));
    }

    static void noIfThereAreNotSoManyLeft() {
        for (int stop = 0; stop <= 10; stop++) {
            for (int n = 1; n <= 10; n++) {
                if (stop + n <= 10) Due.is("the stop then", stopAfter(stop, n), stop + n);
                else refusesToPass(stop, n);
            }
        }
    }

    private static int stopAfter(int stop, int n) {
        IdeasDeck x = at(stop);
        x.drive(n);
        return x.now(0);
    }

    private static void refusesToPass(int stop, int n) {
        Calls.no("drive(" + n + ") at stop " + stop, () -> at(stop), x -> x.drive(n));
    }

    private static IdeasDeck at(int stop) {
        IdeasDeck x = Buses.of("bus 4; idea 0 4 1 3; idea 2 3 2 9;");
        if (stop > 0) x.drive(stop);
        return x;
    }

    static void stop10TheJourneyIsOver() {
        IdeasDeck x = Buses.rich();
        Due.is("drive(7)", x.drive(7), 34);
        Due.is("the stop", x.now(0), 10);
        Due.is("nobody is up", x.now(1), 0);
        Due.is("drive(1)", x.drive(1), IdeasDeck.NO);
    }

    static void answersHowMuchTheLevyIsMore() {
        IdeasDeck x = Buses.of("bus 4; idea 0 4 1 3; idea 2 3 2 9;");
        Due.is("nobody yet", x.drive(1), 0);
        Due.is("stops 1, 2", x.drive(2), 4 + 4 + 3);
        // Behind 3, 5 and 7 the feeling sways twice; it gets off at 9.
        Due.is("the others", x.drive(7), 6 + 3 + 6 + 3 + 6 + 3 + 0);
        Due.is("the levy", x.now(4), 38);
    }

    static void tenStopsAtOnceAreAsOneByOne() {
        IdeasDeck x = Buses.of("bus 2; bridge 3 2; idea 0 4 1 3; idea 2 3 2 9; idea 4 9 4 8; quarrel 1 2;");
        IdeasDeck y = Buses.of("bus 2; bridge 3 2; idea 0 4 1 3; idea 2 3 2 9; idea 4 9 4 8; quarrel 1 2;");
        int levy = 0;
        for (int n = 0; n < 10; n++) levy += x.drive(1);
        Due.is("drive(10)", y.drive(10), levy);
        for (int what = 0; what <= 4; what++) Due.is("now(" + what + ")", y.now(what), x.now(what));
    }

    static void nStopsTogetherAreOneThatMayBeUndone() {
        IdeasDeck x = Buses.rich();
        x.drive(5);
        Due.is("count(5)", x.count(5), 5);
        Due.is("undo()", x.undo(), 3);
    }

    static void thoseWhoGetOffAreUpNoMore() {
        for (int off = 1; off <= 9; off++) {
            IdeasDeck x = new IdeasDeck();
            x.idea(0, 5, 0, off);
            x.drive(off);
            Due.is("up ahead of " + off, x.now(1), 1);
            x.drive(1);
            Due.is("up behind " + off, x.now(1), 0);
            Due.is("not scraped", x.now(2), 0);
            Due.is("not left", x.now(3), 0);
            Due.is("the levy", x.now(4), 5 * off);
        }
    }

    static void thoseWhoGetOnComeAtTheirStop() {
        for (int on = 0; on <= 8; on++) {
            IdeasDeck x = new IdeasDeck();
            x.idea(0, 5, on, 9);
            if (on > 0) Due.is("nothing ahead of it", x.drive(on), 0);
            Due.is("not up yet", x.now(1), 0);
            Due.is("behind it", x.drive(1), 5);
            Due.is("up", x.now(1), 1);
        }
    }

    static void offAheadOfOn() {
        IdeasDeck x = Buses.of("bus 1; idea 0 5 2 4; idea 0 4 0 2;");
        x.drive(3);
        Due.is("there is room", x.now(1), 1);
        Due.is("nobody left", x.now(3), 0);
    }

    static void byNumbers() {
        IdeasDeck x = Buses.of("bus 1; idea 0 4 2 4; idea 0 5 2 4; idea 0 6 2 4;");
        x.drive(3);
        Due.is("the first is up", x.now(1), 1);
        Due.is("the others are left", x.now(3), 6);
    }

    static void noRoomIsLeft() {
        IdeasDeck x = Buses.of("bus 2; idea 0 4 0 4; idea 0 5 1 4; idea 0 6 2 9; idea 0 7 4 9;");
        x.drive(3);
        Due.is("two are up", x.now(1), 3);
        Due.is("one is left", x.now(3), 4);
        x.drive(2);
        Due.is("room again, but who was left does not come", x.now(1), 8);
    }

    static void whoQuarrelsWithOneUpIsLeft() {
        IdeasDeck x = Buses.of("bus 4; idea 0 4 0 4; idea 0 5 1 4; idea 0 5 1 4; quarrel 0 1; quarrel 1 2;");
        x.drive(2);
        Due.is("left", x.now(3), 2);
        Due.is("its quarrel is nobody's then", x.now(1), 5);
    }

    static void noQuarrelWithOneWhoGotOff() {
        IdeasDeck x = Buses.of("bus 4; idea 0 4 0 2; idea 0 5 2 4; quarrel 0 1;");
        x.drive(3);
        Due.is("up", x.now(1), 2);
    }

    static void noQuarrelWithOneWhoWasScraped() {
        IdeasDeck x = Buses.of("bus 4; bridge 0 2; idea 0 4 0 9; idea 0 5 1 4; quarrel 0 1;");
        x.drive(2);
        Due.is("up", x.now(1), 2);
        Due.is("scraped", x.now(2), 1);
    }

    static void quarrelAtTheSameStopEvenIfScrapedThere() {
        IdeasDeck x = Buses.of("bus 4; bridge 0 4; idea 3 4 0 9; idea 0 5 0 4; quarrel 0 1;");
        x.drive(1);
        Due.is("scraped", x.now(2), 1);
        Due.is("left ahead of the bridge", x.now(3), 2);
        Due.is("nobody up", x.now(1), 0);
    }

    static void thoseTallerThanTheBridgeAreScraped() {
        // At stop 3 they are 3, 2, 3, 5, 3 and 4 tall.
        int[] scraped = {0, 63, 61, 40, 8, 0, 0, 0, 0, 0};
        for (int height = 0; height <= 9; height++) {
            IdeasDeck x = new IdeasDeck();
            x.bus(7);
            for (int kind = 0; kind <= 5; kind++) x.idea(kind, 1, 3, 9);
            x.bridge(3, height);
            x.drive(4);
            Due.is("scraped at height " + height, x.now(2), scraped[height]);
            Due.is("up at height " + height, x.now(1), 63 - scraped[height]);
            Due.is("left at height " + height, x.now(3), 0);
        }
    }

    static void aReformGrowsIntoABridge() {
        // It is 2, 3, 4 and 5 tall from 0, 3, 6 and 9 on.
        for (int height = 2; height <= 4; height++) {
            IdeasDeck x = new IdeasDeck();
            x.idea(4, 9, 0, 9);
            for (int s = 0; s <= 9; s++) x.bridge(s, height);
            int first = 3 * (height - 1);
            Due.is("scraped at height " + height, x.end(0), first < 9 ? 1 : 0);
            Due.is("levy at height " + height, x.end(2), 6 * Math.min(first, 9));
        }
    }

    static void theLevyIsOfThoseWhoPassTheBridge() {
        IdeasDeck x = Buses.of("bus 4; bridge 0 4; idea 3 4 0 4; idea 0 5 0 4;");
        Due.is("drive(1)", x.drive(1), 5);
    }

    static void whoIsScrapedMakesRoom() {
        IdeasDeck x = Buses.of("bus 1; bridge 0 4; idea 3 4 0 4; idea 0 5 0 4; idea 0 2 1 4;");
        x.drive(2);
        Due.is("up", x.now(1), 4);
        Due.is("scraped", x.now(2), 1);
        Due.is("left", x.now(3), 2);
    }

    static void whoGetsOffAheadOfABridgeIsNotScraped() {
        IdeasDeck x = Buses.of("bus 4; bridge 4 1; idea 3 4 0 4;");
        x.drive(10);
        Due.is("scraped", x.now(2), 0);
        Due.is("the levy", x.now(4), 16);
    }

    static void noIdeasPayNothing() {
        IdeasDeck x = new IdeasDeck();
        Due.is("drive(10)", x.drive(10), 0);
        for (int what = 1; what <= 4; what++) Due.is("now(" + what + ")", x.now(what), 0);
    }

    static void theMostThatCanBe() {
        IdeasDeck x = new IdeasDeck();
        x.bus(7);
        for (int i = 0; i < 7; i++) x.idea(2, 9, 0, 9);
        // Behind five even stops by 9, behind four odd ones by 18.
        Due.is("drive(10)", x.drive(10), 7 * (5 * 9 + 4 * 18));
    }
}
