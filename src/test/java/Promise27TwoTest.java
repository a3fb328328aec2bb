/** Promise 27: two. */
public final class Promise27TwoTest {
    public static void main(String[] args) {
        Due.runTests(Promise27TwoTest.class);
    }

    static void firstIsAnIdeaElseBadAsMinus10() {
        Calls.only("two(a, 4, -1)", Buses::rich, 0, 3, -10, (x, a) -> x.two(a, 4, -1));
        badAsMinus10("two(5, 4, 0)", Buses::rich, x -> x.two(5, 4, 0));
    }

    static void secondIsAnIdeaElseBadAsMinus10() {
        Calls.only("two(4, b, -1)", Buses::rich, 0, 3, -10, (x, b) -> x.two(4, b, -1));
        badAsMinus10("two(4, 5, 0)", Buses::rich, x -> x.two(4, 5, 0));
    }

    static void alikeIsBadAsMinus10() {
        for (int i = 0; i < 5; i++) {
            int one = i;
            badAsMinus10("two(" + i + ", " + i + ", -1)", Buses::rich, x -> x.two(one, one, -1));
            badAsMinus10("two(" + i + ", " + i + ", 0)", Buses::rich, x -> x.two(one, one, 0));
        }
    }

    static void kBelowNoneIsBadAsMinus10() {
        for (int below : new int[] {-2, -3, -10, Integer.MIN_VALUE}) {
            badAsMinus10("two(0, 1, " + below + ")", Buses::rich, x -> x.two(0, 1, below));
        }
    }

    static void noIdeasIsBadAsMinus10() {
        badAsMinus10("two(0, 1, -1)", IdeasDeck::new, x -> x.two(0, 1, -1));
        badAsMinus10("two(0, 1, 0)", () -> Buses.of("bus 4; idea 0 1 0 1;"), x -> x.two(0, 1, 0));
    }

    private static void badAsMinus10(String call, Calls.Maker from, Calls.Call c) {
        Calls.refused(call, from, Calls.AS_BAD, -10, c);
    }

    static void notSoManyIsMinus5AndNotRefused() {
        for (int k : new int[] {1, 2, 99, 100, Integer.MAX_VALUE}) {
            Calls.asks("two(0, 1, " + k + ")", () -> Buses.of("bus 4; idea 0 1 5 9; idea 0 1 3 4;"), -5,
                x -> x.two(0, 1, k));
        }
    }

    static void roomForBothAtOnce() {
        resting("bus 4; idea 0 1 5 9; idea 0 1 3 4;", 0, 1, 0);
    }

    static void roomForOne() {
        // They get off at 2 and 4: the lower one stays at 0, the other one does best at 2.
        resting("bus 1; idea 0 1 0 2; idea 0 1 0 4;", 0, 1, 2);
    }

    static void toldTheOtherWayRound() {
        resting("bus 1; idea 0 1 0 2; idea 0 1 0 4;", 1, 0, 20);
    }

    static void aBridgeToComeBehind() {
        // The doubt comes behind it, and stays for 1 and 2.
        resting("bus 4; bridge 0 4; idea 3 1 0 3; idea 0 1 0 1;", 0, 1, 10);
        // The plain one passes it, so it comes at 0 all the same.
        resting("bus 4; bridge 0 4; idea 3 1 0 3; idea 0 1 0 3;", 0, 1, 10);
        resting("bus 4; bridge 0 4; idea 3 1 0 3; idea 0 1 0 3;", 1, 0, 1);
        resting("bus 4; bridge 2 4; idea 3 1 0 9; idea 0 1 0 9;", 0, 1, 30);
    }

    static void whereNothingHelpsEveryPairRests() {
        resting("bus 4; bridge 0 1; bridge 1 1; idea 0 1 0 2; idea 0 1 0 2;", 0, 1, 0, 1, 10, 11);
        resting("bus 1; idea 0 1 0 9; idea 0 1 1 2; idea 0 1 1 2;", 1, 2, 0, 1, 10, 11);
    }

    static void theMostPairsRising() {
        IdeasDeck x = new IdeasDeck();
        x.bus(7);
        for (int s = 0; s <= 8; s++) x.bridge(s, 1);
        x.idea(0, 1, 0, 9);
        x.idea(0, 1, 0, 9);
        Due.is("how many", x.two(0, 1, IdeasDeck.NONE), 81);
        for (int k = 0; k < 81; k++) Due.is("the k-th", x.two(0, 1, k), 10 * (k / 9) + k % 9);
        Due.is("one more", x.two(0, 1, 81), -5);
    }

    static void theLeastOff() {
        resting("bus 4; idea 0 1 0 1; idea 0 1 0 1;", 0, 1, 0);
        resting("bus 4; idea 0 1 0 1; idea 0 1 0 1;", 1, 0, 0);
    }

    static void theyQuarrel() {
        // The lower one gets on first at 0, the other one nowhere.
        resting("bus 4; idea 0 1 0 3; idea 0 1 0 3; quarrel 0 1;", 0, 1, 0, 1, 2);
    }

    static void allOthersAsTheyAre() {
        // Idea 0 holds the only room to 4: both do best to come then, the lower one first.
        resting("bus 1; idea 0 1 0 4; idea 0 1 0 9; idea 0 1 0 9;", 1, 2,
            40, 41, 42, 43, 44, 45, 46, 47, 48);
    }

    static void howManyStopsNotHowMuchItSways() {
        // The old one sways nothing, and stays as long as it can all the same.
        resting("bus 4; idea 5 9 3 9; idea 2 9 3 9;", 0, 1, 0);
    }

    static void aJourneyFromStop0WithNobodyUp() {
        IdeasDeck x = Buses.of("bus 1; idea 0 1 0 2; idea 0 1 0 4;");
        x.drive(1);
        x.puts(0);
        Due.is("how many", x.two(0, 1, -1), 1);
        Due.is("the first", x.two(0, 1, 0), 2);
        x.drive(9);
        Due.is("when it is over", x.two(0, 1, 0), 2);
    }

    static void nothingIsChanged() {
        Calls.asks("two(0, 1, 0)", () -> ridingTwo(), 2, x -> x.two(0, 1, 0));
        Calls.asks("two(0, 1, -1)", () -> ridingTwo(), 1, x -> x.two(0, 1, -1));
    }

    private static IdeasDeck ridingTwo() {
        IdeasDeck x = Buses.of("bus 1; idea 0 1 0 2; idea 0 1 0 4;");
        x.drive(1);
        return x;
    }

    private static void resting(String text, int a, int b, int... pairs) {
        IdeasDeck x = Buses.of(text);
        String call = "two(" + a + ", " + b + ") of " + text;
        Due.is(call, x.two(a, b, IdeasDeck.NONE), pairs.length);
        for (int k = 0; k < pairs.length; k++) Due.is(call + " " + k, x.two(a, b, k), pairs[k]);
        Due.is(call + " one too many", x.two(a, b, pairs.length), -5);
        for (int what = 0; what <= 2; what++) Due.is("status(" + what + ")", x.status(what), 0);
    }
}
