/** Promise 11: puts. */
public final class Promise11PutsTest {
    public static void main(String[] args) {
        Due.runTests(Promise11PutsTest.class);
    }

    static void iIsAnIdeaElseBad() {
        Calls.only("puts(i)", Buses::rich, 0, 4, (x, i) -> x.puts(i));
    }

    static void noIdeasIsBad() {
        Calls.bad("puts(0)", IdeasDeck::new, x -> x.puts(0));
    }

    static void oneNotUpYetIsNo() {
        Calls.no("puts(0)", () -> Buses.of("bus 4; idea 0 4 0 9;"), x -> x.puts(0));
    }

    static void oneScrapedIsNo() {
        Calls.no("puts(1)", Buses::rich, x -> x.puts(1));
    }

    static void oneLeftIsNo() {
        Calls.no("puts(4)", Buses::rich, x -> x.puts(4));
    }

    static void oneWhoGotOffIsNo() {
        Calls.no("puts(0)", Buses::over, x -> x.puts(0));
    }

    static void onePutOffIsNo() {
        Calls.no("puts(2)", Buses::rich, x -> x.puts(2));
    }

    static void answersHowManyAreUpThen() {
        IdeasDeck x = Buses.full();
        for (int i = 0; i < 6; i++) Due.is("puts(" + i + ")", x.puts(i), 5 - i);
        Due.is("nobody is up", x.now(1), 0);
    }

    static void onlyThatOneIsOff() {
        for (int i = 0; i < 6; i++) {
            IdeasDeck x = Buses.full();
            Due.is("puts(" + i + ")", x.puts(i), 5);
            Due.is("up", x.now(1), 63 - (1 << i));
        }
    }

    static void theStopScrapedLeftAndLevyStay() {
        IdeasDeck x = Buses.rich();
        Due.is("puts(0)", x.puts(0), 1);
        long[] now = {3, 8, 2, 16, 25};
        for (int what = 0; what <= 4; what++) Due.is("now(" + what + ")", x.now(what), now[what]);
    }

    static void itMayBeUndone() {
        IdeasDeck x = Buses.rich();
        x.puts(0);
        Due.is("count(5)", x.count(5), 5);
        Due.is("undo()", x.undo(), 3);
        Due.is("up", x.now(1), 9);
    }

    static void itPaysNoMoreAndDoesNotComeAgain() {
        IdeasDeck x = Buses.of("bus 4; idea 0 4 0 9; idea 0 5 0 9;");
        x.drive(1);
        x.puts(0);
        Due.is("drive(9)", x.drive(9), 8 * 5);
        Due.is("not left", x.now(3), 0);
        Due.is("not scraped", x.now(2), 0);
    }

    static void itMakesRoomAndPeace() {
        IdeasDeck x = Buses.of("bus 1; idea 0 4 0 9; idea 0 5 1 9; quarrel 0 1;");
        x.drive(1);
        x.puts(0);
        x.drive(1);
        Due.is("up", x.now(1), 2);
        Due.is("left", x.now(3), 0);
    }
}
