/** Promise 14: sways, and the kinds. */
public final class Promise14SwaysTest {
    public static void main(String[] args) {
        Due.runTests(Promise14SwaysTest.class);
    }

    static void iIsAnIdeaElseBad() {
        Calls.only("sways(i, 0, 0)", Buses::rich, 0, 4, (x, i) -> x.sways(i, 0, 0));
        Calls.only("sways(i, 0, 1)", Buses::rich, 0, 4, (x, i) -> x.sways(i, 0, 1));
    }

    static void stopIs0To9ElseBad() {
        Calls.only("sways(0, s, 0)", Buses::rich, 0, 9, (x, s) -> x.sways(0, s, 0));
        Calls.only("sways(0, s, 1)", Buses::rich, 0, 9, (x, s) -> x.sways(0, s, 1));
    }

    static void whatIs0Or1ElseBad() {
        Calls.only("sways(0, 0, what)", Buses::rich, 0, 1, (x, what) -> x.sways(0, 0, what));
    }

    static void noIdeasIsBad() {
        Calls.bad("sways(0, 0, 0)", IdeasDeck::new, x -> x.sways(0, 0, 0));
    }

    static void allWrongIsRefusedOnce() {
        Calls.bad("sways(5, 10, 2)", x -> x.sways(5, 10, 2));
    }

    static void asksOnly() {
        Calls.asks("sways(2, 3, 0)", Buses::rich, 6, x -> x.sways(2, 3, 0));
        Calls.asks("sways(2, 3, 1)", Buses::rich, 3, x -> x.sways(2, 3, 1));
    }

    static void stopsThatArePassedToo() {
        IdeasDeck x = Buses.over();
        for (int s = 0; s <= 9; s++) Due.is("sways(1, " + s + ", 1)", x.sways(1, s, 1), 5);
    }

    static void plainSwaysItsFeet() {
        for (int feet = 1; feet <= 9; feet++) swaysEverywhere(0, feet, feet);
    }

    static void economySwaysHalfCutUp() {
        int[] half = {0, 1, 1, 2, 2, 3, 3, 4, 4, 5};
        for (int feet = 1; feet <= 9; feet++) swaysEverywhere(1, feet, half[feet]);
    }

    static void feelingSwaysTwiceBehindOddStops() {
        for (int feet = 1; feet <= 9; feet++) {
            IdeasDeck x = one(2, feet);
            for (int s = 0; s <= 8; s += 2) Due.is("even " + s, x.sways(0, s, 0), feet);
            for (int s = 1; s <= 9; s += 2) Due.is("odd " + s, x.sways(0, s, 0), 2 * feet);
        }
    }

    static void doubtSwaysAsPlain() {
        for (int feet = 1; feet <= 9; feet++) swaysEverywhere(3, feet, feet);
    }

    static void reformSwaysOneMoreThanEconomy() {
        int[] half = {0, 1, 1, 2, 2, 3, 3, 4, 4, 5};
        for (int feet = 1; feet <= 9; feet++) swaysEverywhere(4, feet, half[feet] + 1);
    }

    static void oldSwaysNothing() {
        for (int feet = 1; feet <= 9; feet++) swaysEverywhere(5, feet, 0);
    }

    static void howTallTheyAre() {
        int[][] tall = {{3, 3, 3, 3, 3, 3, 3, 3, 3, 3}, {2, 2, 2, 2, 2, 2, 2, 2, 2, 2},
            {3, 3, 3, 3, 3, 3, 3, 3, 3, 3}, {5, 5, 5, 5, 5, 5, 5, 5, 5, 5},
            {2, 2, 2, 3, 3, 3, 4, 4, 4, 5}, {4, 4, 4, 4, 4, 4, 4, 4, 4, 4}};
        for (int feet = 1; feet <= 9; feet += 4) {
            for (int kind = 0; kind <= 5; kind++) {
                IdeasDeck x = one(kind, feet);
                for (int s = 0; s <= 9; s++) {
                    Due.is("kind " + kind + " behind " + s, x.sways(0, s, 1), tall[kind][s]);
                }
            }
        }
    }

    private static IdeasDeck one(int kind, int feet) {
        IdeasDeck x = new IdeasDeck();
        x.idea(kind, feet, 3, 4);
        return x;
    }

    private static void swaysEverywhere(int kind, int feet, int sway) {
        IdeasDeck x = one(kind, feet);
        for (int s = 0; s <= 9; s++) {
            Due.is("kind " + kind + " feet " + feet + " behind " + s, x.sways(0, s, 0), sway);
        }
    }
}
