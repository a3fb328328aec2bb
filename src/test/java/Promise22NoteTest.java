/** Promise 22: note. */
public final class Promise22NoteTest {
    public static void main(String[] args) {
        Due.runTests(Promise22NoteTest.class);
    }

    static void iIsAnIdeaElseBad() {
        Calls.only("note(i, 0, 0, 0)", Buses::rich, 0, 4, (x, i) -> x.note(i, 0, 0, 0));
    }

    static void noIdeasIsBad() {
        Calls.bad("note(0, 0, 0, 0)", IdeasDeck::new, x -> x.note(0, 0, 0, 0));
    }

    static void stopIs0To9ElseBad() {
        Calls.only("note(0, s, 0, 0)", Buses::rich, 0, 9, (x, s) -> x.note(0, s, 0, 0));
    }

    static void swayIs0To40ElseBad() {
        Calls.only("note(0, 0, x, 0)", Buses::rich, 0, 40, (x, sway) -> x.note(0, 0, sway, 0));
    }

    static void tallIs0To9ElseBad() {
        Calls.only("note(0, 0, 0, t)", Buses::rich, 0, 9, (x, t) -> x.note(0, 0, 0, t));
    }

    static void answersHowManyThereAre() {
        IdeasDeck x = Buses.of("bus 4; idea 0 1 0 9;");
        for (int n = 1; n <= 6; n++) {
            Due.is("note", x.note(0, 9, 40, 9), n);
            Due.is("count(4)", x.count(4), n);
        }
    }

    static void aSeventhIsFull() {
        Calls.full("note(0, 0, 0, 0)", Buses::full, x -> x.note(0, 0, 0, 0));
        Calls.full("note(6, 9, 40, 9)", Buses::full, x -> x.note(6, 9, 40, 9));
    }

    static void badAheadOfFull() {
        Calls.bad("note(7, 0, 0, 0)", Buses::full, x -> x.note(7, 0, 0, 0));
        Calls.bad("note(0, 10, 0, 0)", Buses::full, x -> x.note(0, 10, 0, 0));
        Calls.bad("note(0, 0, 41, 0)", Buses::full, x -> x.note(0, 0, 41, 0));
        Calls.bad("note(0, 0, 0, 10)", Buses::full, x -> x.note(0, 0, 0, 10));
    }

    static void onlyTheNotesChange() {
        IdeasDeck x = Buses.rich();
        Due.is("note", x.note(4, 3, 2, 1), 3);
        long[] counts = {5, 2, 1, 2, 3, 4, 6};
        for (int what = 0; what <= 6; what++) Due.is("count(" + what + ")", x.count(what), counts[what]);
        long[] now = {3, 9, 2, 16, 25};
        for (int what = 0; what <= 4; what++) Due.is("now(" + what + ")", x.now(what), now[what]);
    }
}
