/** Promise 8: clear. */
public final class Promise08ClearTest {
    public static void main(String[] args) {
        Due.runTests(Promise08ClearTest.class);
    }

    static void anEmptyTextHad0() {
        Calls.asks("clear()", Buses::ridden, 0, x -> x.clear());
    }

    static void aFullTextHad150() {
        IdeasDeck x = Buses.full();
        Due.is("clear()", x.clear(), 150);
        Due.is("count(6)", x.count(6), 0);
        Due.is("clear() again", x.clear(), 0);
    }

    static void anEmptyTextIsReadAsFault0() {
        IdeasDeck x = Buses.rich();
        Due.is("clear()", x.clear(), 6);
        Due.is("read()", x.read(), -10);
    }

    static void theNextByteIsTheFirst() {
        IdeasDeck x = Buses.full();
        x.clear();
        Due.is("type", x.type('b'), 1);
        for (char c : "us 6;".toCharArray()) x.type(c);
        Due.is("read()", x.read(), 1);
        Due.is("room", x.count(1), 6);
    }

    static void bytesOfTheOldTextDoNotComeBack() {
        IdeasDeck x = new IdeasDeck();
        Buses.tell(x, "bus 4;");
        x.clear();
        for (char c : "bus".toCharArray()) x.type(c);
        Due.is("read()", x.read(), -13);
    }

    static void onlyTheTextChanges() {
        IdeasDeck x = Buses.rich();
        x.clear();
        Buses.tell(x, "bus 3;");
        Due.isTrue("all else stays", Probe.of(x).equals(Probe.of(Buses.rich())));
        Due.is("nothing is refused", x.status(0) + x.status(2), 0);
    }
}
