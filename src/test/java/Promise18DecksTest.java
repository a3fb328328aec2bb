/** Promise 18: decks. */
public final class Promise18DecksTest {
    public static void main(String[] args) {
        Due.runTests(Promise18DecksTest.class);
    }

    static void iIsNoneOrAnIdeaElseBadAsMinus10() {
        Calls.only("decks(i)", Buses::rich, -1, 4, -10, (x, i) -> x.decks(i));
    }

    static void noIdeas0Decks() {
        Calls.asks("decks(NONE)", IdeasDeck::new, 0, x -> x.decks(IdeasDeck.NONE));
        Calls.refused("decks(0)", IdeasDeck::new, Calls.AS_BAD, -10, x -> x.decks(0));
    }

    static void anEighthIsBadAsMinus10() {
        Calls.refused("decks(7)", Buses::full, Calls.AS_BAD, -10, x -> x.decks(7));
    }

    static void nothingIsChanged() {
        Calls.asks("decks(NONE)", Buses::rich, 2, x -> x.decks(IdeasDeck.NONE));
        Calls.asks("decks(4)", Buses::rich, 1, x -> x.decks(4));
    }

    static void oneIdea() {
        partedAs(ideas(1), 1, 0);
    }

    static void peaceIsOneDeckHoweverLittleRoom() {
        IdeasDeck x = ideas(7);
        x.room(1);
        partedAs(x, 1, 0, 0, 0, 0, 0, 0, 0);
    }

    static void allQuarrelSevenDecks() {
        IdeasDeck x = ideas(7);
        for (int a = 0; a < 7; a++) {
            for (int b = 0; b < a; b++) x.quarrel(a, b, 1);
        }
        partedAs(x, 7, 0, 1, 2, 3, 4, 5, 6);
    }

    static void aRingOfEvenLength() {
        IdeasDeck x = ideas(7, 0, 2, 2, 1, 1, 3, 3, 0);
        partedAs(x, 2, 0, 0, 1, 1, 0, 0, 0);
    }

    static void aRingOfOddLength() {
        IdeasDeck x = ideas(7, 0, 1, 1, 2, 2, 3, 3, 4, 4, 5, 5, 6, 6, 0);
        partedAs(x, 3, 0, 1, 0, 1, 0, 1, 2);
    }

    static void theFewestAheadOfTheLeastOfOne() {
        // A path 0-4-5-1: 0 and 1 do not quarrel, but on one deck they would make it three decks.
        partedAs(ideas(6, 0, 4, 4, 5, 5, 1), 2, 0, 1, 0, 0, 1, 0);
    }

    static void eachTheLeastThatMayBe() {
        // Idea 6 quarrels with one of each of the decks but the last; the lone ones are on deck 0.
        partedAs(ideas(7, 0, 2, 0, 6, 2, 6), 3, 0, 0, 1, 0, 0, 0, 2);
    }

    static void quarrelsTakenBack() {
        IdeasDeck x = ideas(3, 0, 1, 1, 2, 0, 2);
        partedAs(x, 3, 0, 1, 2);
        x.quarrel(2, 0, 0);
        partedAs(x, 2, 0, 1, 0);
    }

    static void whoRidesWhereDoesNotMatter() {
        IdeasDeck x = new IdeasDeck();
        x.idea(0, 1, 0, 1);
        x.idea(0, 1, 5, 6);
        x.quarrel(0, 1, 1);
        x.drive(10);
        partedAs(x, 2, 0, 1);
    }

    private static IdeasDeck ideas(int many, int... pairs) {
        IdeasDeck x = new IdeasDeck();
        for (int i = 0; i < many; i++) x.idea(0, 1, 0, 9);
        for (int n = 0; n + 1 < pairs.length; n += 2) x.quarrel(pairs[n], pairs[n + 1], 1);
        return x;
    }

    private static void partedAs(IdeasDeck x, int many, int... decks) {
        Due.is("ideas", x.count(0), decks.length);
        Due.is("decks", x.decks(IdeasDeck.NONE), many);
        for (int i = 0; i < decks.length; i++) Due.is("deck of " + i, x.decks(i), decks[i]);
        Due.is("nothing is refused", x.status(0), 0);
    }
}
