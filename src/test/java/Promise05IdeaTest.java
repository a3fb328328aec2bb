/** Promise 5: idea. */
public final class Promise05IdeaTest {
    public static void main(String[] args) {
        Due.runTests(Promise05IdeaTest.class);
    }

    static void kindIs0To5ElseBad() {
        Calls.only("idea(kind, 1, 0, 1)", Buses::rich, 0, 5, (x, kind) -> x.idea(kind, 1, 0, 1));
    }

    static void feetAre1To9ElseBad() {
        Calls.only("idea(0, feet, 0, 1)", Buses::rich, 1, 9, (x, feet) -> x.idea(0, feet, 0, 1));
    }

    static void onIs0To8ElseBad() {
        Calls.only("idea(0, 1, on, 9)", Buses::rich, 0, 8, (x, on) -> x.idea(0, 1, on, 9));
    }

    static void offIs1To9ElseBad() {
        Calls.only("idea(0, 1, 0, off)", Buses::rich, 1, 9, (x, off) -> x.idea(0, 1, 0, off));
    }

    static void offIsLaterThanOnElseBad() {
        for (int on = 0; on <= 8; on++) {
            int from = on;
            Calls.only("idea(0, 1, " + on + ", off)", Buses::rich, on + 1, 9, (x, off) -> x.idea(0, 1, from, off));
        }
    }

    static void on9IsBadThoughOffIsLater() {
        Calls.bad("idea(0, 1, 9, 10)", x -> x.idea(0, 1, 9, 10));
        Calls.bad("idea far off", x -> x.idea(0, 1, Integer.MAX_VALUE, Integer.MIN_VALUE));
    }

    static void answersItsNumber() {
        IdeasDeck x = new IdeasDeck();
        for (int i = 0; i < 7; i++) Due.is("number", x.idea(i % 6, i + 1, i, i + 2), i);
        for (int i = 0; i < 7; i++) {
            Due.is("kind", x.of(i, 0), i % 6);
            Due.is("feet", x.of(i, 1), i + 1);
            Due.is("on", x.of(i, 2), i);
            Due.is("off", x.of(i, 3), i + 2);
            Due.is("not up", x.of(i, 4), 0);
            Due.is("no quarrels", x.of(i, 5), 0);
        }
    }

    static void aRefusedOneHasNoNumber() {
        IdeasDeck x = new IdeasDeck();
        x.idea(0, 1, 0, 1);
        Due.is("refused", x.idea(0, 1, 1, 1), IdeasDeck.BAD);
        Due.is("the next", x.idea(0, 1, 0, 1), 1);
    }

    static void anEighthIsFull() {
        Calls.full("an eighth idea", Buses::full, x -> x.idea(0, 1, 0, 1));
    }

    static void badAheadOfFull() {
        Calls.bad("kind", Buses::full, x -> x.idea(6, 1, 0, 1));
        Calls.bad("feet", Buses::full, x -> x.idea(0, 10, 0, 1));
        Calls.bad("on", Buses::full, x -> x.idea(0, 1, 9, 9));
        Calls.bad("off", Buses::full, x -> x.idea(0, 1, 3, 3));
    }

    static void noneMayBeUndoneBehindIt() {
        IdeasDeck x = Buses.ridden();
        x.idea(0, 1, 0, 1);
        Due.is("count(5)", x.count(5), 0);
        Due.is("undo()", x.undo(), IdeasDeck.NO);
    }

    static void itGetsOnAtTheStopToCome() {
        IdeasDeck x = Buses.of("bus 4; idea 0 1 0 9;");
        x.drive(3);
        x.idea(0, 2, 3, 9);
        Due.is("it is not up yet", x.now(1), 1);
        x.drive(1);
        Due.is("it is up", x.now(1), 3);
    }

    static void itsStopIsPassedSoItNeverGetsOn() {
        IdeasDeck x = Buses.of("bus 4; idea 0 1 0 9;");
        x.drive(3);
        x.idea(0, 2, 2, 9);
        x.drive(7);
        Due.is("the levy of the first alone", x.now(4), 9);
        Due.is("nobody left", x.now(3), 0);
    }

    static void onlyTheIdeaAndWhatMayBeUndoneChange() {
        IdeasDeck x = Buses.rich();
        Due.is("idea", x.idea(0, 1, 0, 1), 5);
        long[] counts = {6, 2, 1, 2, 2, 0, 6};
        for (int what = 0; what <= 6; what++) Due.is("count(" + what + ")", x.count(what), counts[what]);
        long[] now = {3, 9, 2, 16, 25};
        for (int what = 0; what <= 4; what++) Due.is("now(" + what + ")", x.now(what), now[what]);
    }
}
