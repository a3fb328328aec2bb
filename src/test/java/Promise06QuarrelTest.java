/** Promise 6: quarrel. */
public final class Promise06QuarrelTest {
    public static void main(String[] args) {
        Due.runTests(Promise06QuarrelTest.class);
    }

    static void firstIsAnIdeaElseBad() {
        // Idea 4 of the five is the other one, so the numbers below it are as told.
        Calls.only("quarrel(a, 4, 1)", Buses::rich, 0, 3, (x, a) -> x.quarrel(a, 4, 1));
        Calls.bad("quarrel(5, 4, 1)", x -> x.quarrel(5, 4, 1));
    }

    static void secondIsAnIdeaElseBad() {
        Calls.only("quarrel(4, b, 1)", Buses::rich, 0, 3, (x, b) -> x.quarrel(4, b, 1));
        Calls.bad("quarrel(4, 5, 1)", x -> x.quarrel(4, 5, 1));
    }

    static void isIs0Or1ElseBad() {
        Calls.only("quarrel(0, 1, is)", Buses::rich, 0, 1, (x, is) -> x.quarrel(0, 1, is));
    }

    static void alikeIsBad() {
        for (int i = 0; i < 5; i++) {
            int one = i;
            Calls.bad("quarrel(" + i + ", " + i + ", 1)", x -> x.quarrel(one, one, 1));
            Calls.bad("quarrel(" + i + ", " + i + ", 0)", x -> x.quarrel(one, one, 0));
        }
    }

    static void noIdeasIsBad() {
        Calls.bad("quarrel(0, 1, 1)", IdeasDeck::new, x -> x.quarrel(0, 1, 1));
        Calls.bad("quarrel(0, 0, 0)", IdeasDeck::new, x -> x.quarrel(0, 0, 0));
    }

    static void oneIdeaIsBad() {
        Calls.bad("quarrel(0, 1, 1)", () -> Buses.of("bus 4; idea 0 1 0 1;"), x -> x.quarrel(0, 1, 1));
        Calls.bad("quarrel(1, 0, 1)", () -> Buses.of("bus 4; idea 0 1 0 1;"), x -> x.quarrel(1, 0, 1));
    }

    static void answersWhetherTheyDid() {
        IdeasDeck x = Buses.of("bus 4; idea 0 1 0 9; idea 0 2 0 9; idea 0 3 0 9;");
        Due.is("not at first", x.quarrel(0, 2, 1), 0);
        Due.is("told again", x.quarrel(0, 2, 1), 1);
        Due.is("told the other way", x.quarrel(2, 0, 0), 1);
        Due.is("no more", x.quarrel(2, 0, 0), 0);
        Due.is("others never", x.quarrel(1, 2, 0), 0);
    }

    static void itHoldsBothWays() {
        IdeasDeck x = Buses.of("bus 4; idea 0 1 0 9; idea 0 2 0 9; idea 0 3 0 9;");
        x.quarrel(2, 0, 1);
        Due.is("of 0", x.of(0, 5), 4);
        Due.is("of 1", x.of(1, 5), 0);
        Due.is("of 2", x.of(2, 5), 1);
        Due.is("one pair", x.count(2), 1);
        x.quarrel(0, 2, 0);
        Due.is("peace of 0", x.of(0, 5), 0);
        Due.is("peace of 2", x.of(2, 5), 0);
        Due.is("no pair", x.count(2), 0);
    }

    static void peaceHoldsBothWaysWhoeverIsToldFirst() {
        for (int a = 0; a < 7; a++) {
            for (int b = 0; b < 7; b++) {
                if (a == b) continue;
                IdeasDeck x = Buses.full();
                x.quarrel(b, a, 1);
                Due.is("they quarrel: " + a, x.of(a, 5), 1 << b);
                Due.is("they quarrel: " + b, x.of(b, 5), 1 << a);
                Due.is("they did", x.quarrel(a, b, 0), 1);
                Due.is("peace: " + a, x.of(a, 5), 0);
                Due.is("peace: " + b, x.of(b, 5), 0);
            }
        }
    }

    static void peaceLeavesOtherQuarrels() {
        IdeasDeck x = Buses.of("bus 4; idea 0 1 0 9; idea 0 2 0 9; idea 0 3 0 9; quarrel 0 1; quarrel 0 2; quarrel 1 2;");
        x.quarrel(0, 1, 0);
        Due.is("of 0", x.of(0, 5), 4);
        Due.is("of 1", x.of(1, 5), 4);
        Due.is("of 2", x.of(2, 5), 3);
    }

    static void allPairsOfSeven() {
        IdeasDeck x = Buses.full();
        for (int a = 0; a < 7; a++) {
            for (int b = 0; b < a; b++) Due.is("quarrel", x.quarrel(a, b, 1), 0);
        }
        Due.is("pairs", x.count(2), 21);
        for (int i = 0; i < 7; i++) Due.is("of " + i, x.of(i, 5), 127 - (1 << i));
    }

    static void thoseUpStayUpThoughTheyQuarrelNow() {
        IdeasDeck x = Buses.of("bus 4; idea 0 1 0 9; idea 0 2 0 9;");
        x.drive(1);
        x.quarrel(0, 1, 1);
        Due.is("up", x.now(1), 3);
        x.drive(1);
        Due.is("still up", x.now(1), 3);
    }

    static void noneMayBeUndoneBehindIt() {
        IdeasDeck x = Buses.ridden();
        x.quarrel(1, 2, 1);
        Due.is("count(5)", x.count(5), 0);
        Due.is("undo()", x.undo(), IdeasDeck.NO);
    }

    static void noneMayBeUndoneThoughItWasTheSame() {
        IdeasDeck x = Buses.ridden();
        Due.is("they did", x.quarrel(0, 4, 1), 1);
        Due.is("undo()", x.undo(), IdeasDeck.NO);
        IdeasDeck y = Buses.ridden();
        Due.is("they did not", y.quarrel(0, 1, 0), 0);
        Due.is("undo()", y.undo(), IdeasDeck.NO);
    }

    static void onlyTheQuarrelAndWhatMayBeUndoneChange() {
        IdeasDeck x = Buses.rich();
        x.quarrel(1, 2, 1);
        long[] counts = {5, 2, 2, 2, 2, 0, 6};
        for (int what = 0; what <= 6; what++) Due.is("count(" + what + ")", x.count(what), counts[what]);
        long[] now = {3, 9, 2, 16, 25};
        for (int what = 0; what <= 4; what++) Due.is("now(" + what + ")", x.now(what), now[what]);
    }
}
