/** Promise 1: a new object is as told; no IDEAS. */
public final class Promise01NewObjectTest {
    public static void main(String[] args) {
        Due.runTests(Promise01NewObjectTest.class);
    }

    static void noIdeas() {
        IdeasDeck x = new IdeasDeck();
        Due.is("count(0)", x.count(0), 0);
        Due.is("of(0, 0)", x.of(0, 0), IdeasDeck.BAD);
        Due.is("the first idea's number", x.idea(0, 1, 0, 1), 0);
    }

    static void room4AtFirst() {
        IdeasDeck x = new IdeasDeck();
        Due.is("count(1)", x.count(1), 4);
        for (int i = 0; i < 5; i++) x.idea(0, 1, 0, 9);
        Due.is("four of five get on", x.then(0, 0), 15);
        Due.is("the fifth is left", x.end(1), 16);
        Due.is("what it was", x.room(4), 4);
    }

    static void noBridgeBehindAnyStopAtFirst() {
        IdeasDeck x = new IdeasDeck();
        Due.is("count(3)", x.count(3), 0);
        for (int s = 0; s <= 9; s++) Due.is("bridge " + s, x.bridge(s, 0), 0);
    }

    static void noQuarrelsAtFirst() {
        IdeasDeck x = new IdeasDeck();
        Due.is("count(2)", x.count(2), 0);
        x.idea(0, 1, 0, 1);
        x.idea(0, 1, 0, 1);
        Due.is("they did not", x.quarrel(0, 1, 0), 0);
    }

    static void stop0NobodyUpScrapedLeftNoLevy() {
        IdeasDeck x = new IdeasDeck();
        for (int what = 0; what <= 4; what++) Due.is("now(" + what + ")", x.now(what), 0);
    }

    static void noNotes() {
        IdeasDeck x = new IdeasDeck();
        Due.is("count(4)", x.count(4), 0);
        Due.is("forget()", x.forget(), 0);
    }

    static void nothingToUndo() {
        IdeasDeck x = new IdeasDeck();
        Due.is("count(5)", x.count(5), 0);
        Due.is("undo()", x.undo(), IdeasDeck.NO);
    }

    static void emptyText() {
        IdeasDeck x = new IdeasDeck();
        Due.is("count(6)", x.count(6), 0);
        Due.is("read()", x.read(), -10);
        Due.is("clear()", x.clear(), 0);
    }

    static void fraction0By1() {
        IdeasDeck x = new IdeasDeck();
        Due.is("part(0)", x.part(0), 0);
        Due.is("part(1)", x.part(1), 1);
    }

    static void noImages() {
        IdeasDeck x = new IdeasDeck();
        Due.is("from(0)", x.from(0), IdeasDeck.NO);
        Due.is("from(1)", x.from(1), IdeasDeck.NO);
    }

    static void nothingRefused() {
        IdeasDeck x = new IdeasDeck();
        for (int what = 0; what <= 2; what++) Due.is("status(" + what + ")", x.status(what), 0);
    }

    static void apartFromOtherObjects() {
        String alone = Probe.of(new IdeasDeck());
        IdeasDeck x = new IdeasDeck();
        IdeasDeck other = Buses.rich();
        other.now(9);
        Due.isTrue("as if alone", Probe.of(x).equals(alone));
        IdeasDeck behind = new IdeasDeck();
        Due.is("no image of the other", behind.from(0), IdeasDeck.NO);
        Due.is("nothing refused of the other", behind.status(0), 0);
    }
}
