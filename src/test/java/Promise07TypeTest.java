/** Promise 7: type. */
public final class Promise07TypeTest {
    public static void main(String[] args) {
        Due.runTests(Promise07TypeTest.class);
    }

    static void byteIs0To127ElseBad() {
        Calls.only("type(c)", Buses::rich, 0, 127, (x, c) -> x.type(c));
    }

    static void answersHowManyItHas() {
        IdeasDeck x = new IdeasDeck();
        for (int n = 1; n <= 150; n++) {
            Due.is("type", x.type(n % 128), n);
            Due.is("count(6)", x.count(6), n);
        }
    }

    static void aByteOver150IsFull() {
        Calls.full("type(32)", Buses::full, x -> x.type(32));
        Calls.full("type(0)", Buses::full, x -> x.type(0));
        Calls.full("type(127)", Buses::full, x -> x.type(127));
    }

    static void badAheadOfFull() {
        Calls.bad("type(-1)", Buses::full, x -> x.type(-1));
        Calls.bad("type(128)", Buses::full, x -> x.type(128));
    }

    static void aRefusedByteDoesNotCome() {
        IdeasDeck x = new IdeasDeck();
        for (char c : "bus 4".toCharArray()) x.type(c);
        Due.is("refused", x.type(128 + ';'), IdeasDeck.BAD);
        Due.is("the text's length", x.read(), -15);
        Due.is("type(';')", x.type(';'), 6);
        Due.is("read()", x.read(), 1);
    }

    static void theLastOf150BytesIsThere() {
        IdeasDeck x = new IdeasDeck();
        for (int n = 0; n < 144; n++) x.type(' ');
        for (char c : "bus 5;".toCharArray()) x.type(c);
        Due.is("count(6)", x.count(6), 150);
        Due.is("full", x.type('x'), IdeasDeck.FULL);
        Due.is("read()", x.read(), 1);
        Due.is("room", x.count(1), 5);
    }

    static void onlyTheTextChanges() {
        IdeasDeck x = Buses.ridden();
        x.type('b');
        x.clear();
        Due.isTrue("all else stays", Probe.of(x).equals(Probe.of(Buses.ridden())));
    }
}
