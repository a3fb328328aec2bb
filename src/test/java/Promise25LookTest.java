/** Promise 25: look. */
public final class Promise25LookTest {
    public static void main(String[] args) {
        Due.runTests(Promise25LookTest.class);
    }

    static void iIsAnIdeaElseBad() {
        Calls.only("look(i)", Buses::rich, 0, 4, (x, i) -> x.look(i));
    }

    static void noIdeasIsBad() {
        Calls.bad("look(0)", IdeasDeck::new, x -> x.look(0));
    }

    static void noKindIsNone() {
        Calls.asks("look(0)", Promise25LookTest::noKind, IdeasDeck.NONE, x -> x.look(0));
    }

    private static IdeasDeck noKind() {
        IdeasDeck x = Buses.of("bus 4; idea 0 4 0 9;");
        x.note(0, 0, 40, 9);
        return x;
    }

    static void badAheadOfNone() {
        Calls.bad("look(1)", Promise25LookTest::noKind, x -> x.look(1));
    }

    static void oneKindTheFirstStop() {
        int[][] sure = {{1, 4, 3}, {0, 2, 2}, {1, 8, 3}, {0, 4, 5}, {0, 3, 2}, {0, 0, 4}};
        for (int kind = 0; kind <= 5; kind++) {
            IdeasDeck x = Buses.of("bus 4; idea 0 4 0 9;");
            x.note(0, sure[kind][0], sure[kind][1], sure[kind][2]);
            Due.is("is(0)", x.is(0), 1 << kind);
            Due.is("look(0)", x.look(0), 0);
        }
    }

    static void plainOrFeelingAtTheFirstOddStop() {
        IdeasDeck x = Buses.of("bus 4; idea 0 4 0 9;");
        x.note(0, 2, 4, 3);
        Due.is("is(0)", x.is(0), 5);
        Due.is("look(0)", x.look(0), 1);
    }

    static void allKindsByEachFeet() {
        // At 0 plain and feeling are alike; at 1 no two kinds are, whatever the feet.
        for (int feet = 1; feet <= 9; feet++) {
            IdeasDeck x = new IdeasDeck();
            x.idea(5, feet, 0, 9);
            Due.is("look(0) by " + feet + " feet", x.look(0), 1);
        }
    }

    static void kindsThatAreAlikeLaterOnly() {
        // Feet, then a note by which some kinds are alike, these kinds, and where to look.
        int[][] cases = {{1, 3, 2, 3, 20, 0}, {2, 3, 2, 3, 17, 0}, {2, 9, 2, 5, 24, 0}, {3, 9, 3, 5, 24, 0},
            {3, 5, 3, 3, 17, 0}, {2, 4, 2, 3, 21, 1}, {3, 4, 3, 3, 21, 1}};
        for (int[] c : cases) {
            IdeasDeck x = new IdeasDeck();
            x.idea(0, c[0], 0, 9);
            x.note(0, c[1], c[2], c[3]);
            Due.is("is(0) by " + c[0] + " feet", x.is(0), c[4]);
            Due.is("look(0) by " + c[0] + " feet", x.look(0), c[5]);
        }
    }

    static void nothingIsChanged() {
        Calls.asks("look(0)", Buses::rich, 1, x -> x.look(0));
        Calls.asks("look(2)", Buses::rich, 0, x -> x.look(2));
    }
}
