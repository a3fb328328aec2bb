/** Promise 24: is. */
public final class Promise24IsTest {
    public static void main(String[] args) {
        Due.runTests(Promise24IsTest.class);
    }

    static void iIsAnIdeaElseBad() {
        Calls.only("is(i)", Buses::rich, 0, 4, (x, i) -> x.is(i));
    }

    static void noIdeasIsBad() {
        Calls.bad("is(0)", IdeasDeck::new, x -> x.is(0));
    }

    static void noNotesAllKinds() {
        Calls.asks("is(1)", Buses::rich, 63, x -> x.is(1));
    }

    static void noKindFitsIs0() {
        IdeasDeck x = Buses.of("bus 4; idea 0 4 0 9;");
        x.note(0, 0, 40, 9);
        Due.is("is(0)", x.is(0), 0);
        Due.is("it is not refused", x.status(0), 0);
    }

    static void byEachKind() {
        // Behind 2 with 4 feet: 4 3, 2 2, 4 3, 4 5, 3 2, 0 4; behind 6 the reform is 4 tall, behind 9 it is 5.
        int[][] fit = {{2, 4, 3, 5}, {2, 2, 2, 2}, {2, 4, 5, 8}, {2, 3, 2, 16}, {2, 0, 4, 32}, {6, 3, 4, 16},
            {9, 3, 5, 16}, {9, 8, 3, 4}, {9, 4, 3, 1}, {0, 4, 2, 0}, {0, 0, 0, 0}, {0, 2, 3, 0}, {0, 0, 5, 0}};
        for (int[] f : fit) {
            IdeasDeck x = Buses.of("bus 4; idea 5 4 0 9;");
            x.note(0, f[0], f[1], f[2]);
            Due.is("is(0) by " + f[0] + " " + f[1] + " " + f[2], x.is(0), f[3]);
        }
    }

    static void alikeByOneFoot() {
        // With one foot plain and economy sway alike, but are not as tall.
        IdeasDeck x = Buses.of("bus 4; idea 5 1 0 9;");
        x.note(0, 0, 1, 2);
        Due.is("is(0)", x.is(0), 2);
    }

    static void byItsOwnFeet() {
        IdeasDeck x = Buses.of("bus 4; idea 0 4 0 9; idea 0 8 0 9;");
        x.note(0, 0, 4, 3);
        x.note(1, 0, 4, 2);
        Due.is("is(0)", x.is(0), 5);
        Due.is("is(1)", x.is(1), 2);
    }

    static void byAllNotesOfIt() {
        IdeasDeck x = Buses.of("bus 4; idea 5 4 0 9; idea 0 3 0 9;");
        x.note(0, 2, 4, 3);
        Due.is("plain or feeling", x.is(0), 5);
        x.note(1, 2, 0, 4);
        Due.is("not by another's", x.is(0), 5);
        x.note(0, 3, 8, 3);
        Due.is("feeling", x.is(0), 4);
        x.note(0, 3, 4, 3);
        Due.is("none", x.is(0), 0);
        Due.is("the other", x.is(1), 32);
    }

    static void byTheLastOfSixNotes() {
        IdeasDeck x = Buses.of("bus 4; idea 5 4 0 9;");
        for (int n = 0; n < 5; n++) x.note(0, 2, 4, 3);
        Due.is("by five", x.is(0), 5);
        x.note(0, 3, 4, 3);
        Due.is("by six", x.is(0), 1);
    }

    static void nothingIsChanged() {
        Calls.asks("is(0)", Buses::rich, 5, x -> x.is(0));
        Calls.asks("is(2)", Buses::rich, 4, x -> x.is(2));
    }
}
