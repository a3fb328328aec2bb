/** Promise 23: forget. */
public final class Promise23ForgetTest {
    public static void main(String[] args) {
        Due.runTests(Promise23ForgetTest.class);
    }

    static void noNotesWere0() {
        Calls.asks("forget()", IdeasDeck::new, 0, x -> x.forget());
        Calls.asks("forget()", Buses::over, 0, x -> x.forget());
    }

    static void sixNotes() {
        IdeasDeck x = Buses.full();
        Due.is("forget()", x.forget(), 6);
        Due.is("count(4)", x.count(4), 0);
        Due.is("forget() again", x.forget(), 0);
    }

    static void sixMayComeAgain() {
        IdeasDeck x = Buses.full();
        x.forget();
        for (int n = 1; n <= 6; n++) Due.is("note", x.note(0, 0, 1, 3), n);
        Due.is("a seventh", x.note(0, 0, 1, 3), IdeasDeck.FULL);
    }

    static void allKindsMayBeAgain() {
        IdeasDeck x = Buses.full();
        // With 4 feet only a reform sways 3 behind 3 and is 3 tall there.
        Due.is("by a note", x.is(3), 16);
        x.forget();
        for (int i = 0; i < 7; i++) Due.is("is(" + i + ")", x.is(i), 63);
        x.note(3, 0, 0, 4);
        Due.is("by a new note", x.is(3), 32);
    }

    static void onlyTheNotesChange() {
        IdeasDeck x = Buses.rich();
        Due.is("forget()", x.forget(), 2);
        x.note(0, 0, 5, 3);
        x.note(2, 3, 6, 3);
        Due.isTrue("all else stays", Probe.of(x).equals(Probe.of(Buses.rich())));
        IdeasDeck y = Buses.rich();
        y.forget();
        Due.is("what may be undone stays", y.undo(), 2);
    }
}
