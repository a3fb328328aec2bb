/** Promise 19: better. */
public final class Promise19BetterTest {
    public static void main(String[] args) {
        Due.runTests(Promise19BetterTest.class);
    }

    static void noIdeasIsNone() {
        Calls.asks("better()", IdeasDeck::new, IdeasDeck.NONE, x -> x.better());
    }

    static void allRideIsNone() {
        better("bus 1; idea 0 1 0 9;", IdeasDeck.NONE);
        better("bus 7; idea 0 1 0 9; idea 0 1 0 9; idea 0 1 0 9;", IdeasDeck.NONE);
    }

    static void byNoneFewerIsNone() {
        better("bus 1; idea 0 1 0 9; idea 0 1 0 9;", IdeasDeck.NONE);
        // Idea 2 has two in its way: that only one of them changes does not help.
        better("bus 4; idea 0 1 0 9; idea 0 1 0 9; idea 0 1 0 5; idea 0 1 5 9; quarrel 2 0; quarrel 2 1;",
            IdeasDeck.NONE);
    }

    static void beforeItsOffOnly() {
        // Idea 0 gets off at 3: idea 1 may get on there only if its own OFF is later.
        better("bus 1; idea 0 1 0 3; idea 0 1 0 3;", IdeasDeck.NONE);
        better("bus 1; idea 0 1 0 3; idea 0 1 0 4;", 13);
    }

    static void theLastStopToGetOn() {
        better("bus 1; idea 0 1 0 8; idea 0 1 0 9;", 18);
        better("bus 4; bridge 0 1; bridge 7 1; idea 0 1 0 9;", 8);
    }

    static void ofLikeOnesTheLeast() {
        better("bus 1; idea 0 1 0 3; idea 0 1 0 9;", 13);
        better("bus 4; bridge 2 2; idea 0 1 0 9;", 3);
        // Idea 0 and idea 1 can each make way for the other: idea 0 is told.
        better("bus 1; idea 0 1 2 4; idea 0 1 0 3;", 0 + 3);
    }

    static void stop0() {
        // Idea 1 is in the way of both others; idea 0 at stop 0 gets on ahead of it.
        better("bus 4; idea 0 1 1 9; idea 0 1 0 9; idea 0 1 2 9; quarrel 1 0; quarrel 1 2;", 0);
    }

    static void theFewestNotTheFirstFewer() {
        // Idea 0 or idea 1 at stop 0 leaves only idea 2 behind; idea 2 at stop 4 leaves nobody.
        better("bus 4; idea 0 1 2 3; idea 0 1 3 4; idea 0 1 0 9; quarrel 2 0; quarrel 2 1;", 24);
    }

    static void theSeventhIdea() {
        IdeasDeck x = new IdeasDeck();
        x.bus(6);
        for (int i = 0; i < 6; i++) x.idea(0, 1, 0, 8);
        x.idea(0, 1, 0, 9);
        Due.is("better()", x.better(), 68);
    }

    static void scrapedCountsAsLeft() {
        // One who is no longer left but scraped is none fewer.
        better("bus 1; bridge 5 1; idea 0 1 0 5; idea 0 1 3 6;", IdeasDeck.NONE);
        // Idea 1 was left as there was no room: with a bridge behind 5 it does well to come at 6.
        better("bus 1; bridge 5 1; idea 0 1 0 5; idea 0 1 3 9;", 16);
    }

    static void aJourneyFromStop0WithNobodyUp() {
        IdeasDeck x = Buses.of("bus 1; idea 0 1 0 3; idea 0 1 0 9;");
        x.drive(5);
        Due.is("behind five stops", x.better(), 13);
        x.drive(5);
        Due.is("when it is over", x.better(), 13);
        IdeasDeck y = Buses.of("bus 1; idea 0 1 0 9; idea 0 1 3 9;");
        y.drive(1);
        y.puts(0);
        Due.is("who is put off now is on again then", y.better(), IdeasDeck.NONE);
    }

    static void nothingIsChanged() {
        // From stop 0 all five are left or scraped, so that many ways are better: the best is looked for.
        Calls.asks("better()", Buses::rich, richBetter(), x -> x.better());
    }

    /** By the calls that are promised elsewhere: a bus with the one idea told otherwise is driven. */
    private static long richBetter() {
        int[][] ideas = {{0, 5, 0, 9}, {3, 4, 0, 8}, {2, 3, 1, 6}, {1, 7, 2, 9}, {0, 2, 2, 4}};
        long best = IdeasDeck.NONE;
        int fewest = missing(ideas, -1, 0);
        for (int i = 0; i < ideas.length; i++) {
            for (int s = 0; s < ideas[i][3]; s++) {
                int miss = missing(ideas, i, s);
                if (miss >= fewest) continue;
                fewest = miss;
                best = 10 * i + s;
            }
        }
        return best;
    }

    private static int missing(int[][] ideas, int other, int s) {
        IdeasDeck x = new IdeasDeck();
        x.bus(2);
        x.bridge(0, 4);
        x.bridge(5, 2);
        for (int i = 0; i < ideas.length; i++) {
            x.idea(ideas[i][0], ideas[i][1], i == other ? s : ideas[i][2], ideas[i][3]);
        }
        x.quarrel(0, 4, 1);
        return Integer.bitCount(x.end(0)) + Integer.bitCount(x.end(1));
    }

    private static void better(String text, long due) {
        IdeasDeck x = Buses.of(text);
        Due.is("better() of " + text, x.better(), due);
        for (int what = 0; what <= 2; what++) Due.is("status(" + what + ")", x.status(what), 0);
    }
}
