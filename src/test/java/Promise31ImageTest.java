/** Promise 31: image. */
public final class Promise31ImageTest {
    public static void main(String[] args) {
        Due.runTests(Promise31ImageTest.class);
    }

    static void iIs0Or1ElseBad() {
        Calls.only("image(i)", Buses::rich, 0, 1, (x, i) -> x.image(i));
        Calls.only("image(i)", IdeasDeck::new, 0, 1, (x, i) -> x.image(i));
    }

    static void answers1() {
        for (int i = 0; i <= 1; i++) {
            Due.is("on a new one", new IdeasDeck().image(i), 1);
            Due.is("on a rich one", Buses.rich().image(i), 1);
        }
    }

    static void onlyTheImageChanges() {
        IdeasDeck x = Buses.rich();
        long before = x.digest();
        x.image(0);
        Due.is("digest", x.digest(), before);
        Due.is("what may be undone stays", x.undo(), 2);
        Due.is("the other image stays", x.from(1), 1);
        Due.is("its stop", x.now(0), 0);
    }

    static void aRefusedOneKeepsNothing() {
        IdeasDeck x = Buses.ridden();
        x.image(2);
        x.image(-1);
        Due.is("from(0)", x.from(0), IdeasDeck.NO);
        Due.is("from(1)", x.from(1), IdeasDeck.NO);
    }

    static void keptAnewItIsTheNewOne() {
        IdeasDeck x = Buses.rich();
        x.drive(2);
        x.image(0);
        x.drive(1);
        x.from(0);
        Due.is("the stop", x.now(0), 5);
        Due.is("undo()", x.undo(), 3);
    }

    static void theTwoAreApart() {
        IdeasDeck x = Buses.ridden();
        x.image(0);
        x.bus(7);
        x.image(1);
        x.from(0);
        Due.is("ideas of 0", x.count(0), 5);
        x.from(1);
        Due.is("ideas of 1", x.count(0), 0);
        Due.is("room of 1", x.count(1), 7);
        x.from(0);
        Due.is("ideas of 0", x.count(0), 5);
    }

    static void anEmptyBusIsKeptToo() {
        IdeasDeck x = new IdeasDeck();
        x.image(1);
        x.idea(0, 1, 0, 9);
        x.drive(3);
        Due.is("from(1)", x.from(1), 1);
        IdeasDeck y = new IdeasDeck();
        y.image(1);
        Due.isTrue("as a new one with that image", Probe.of(x).equals(Probe.of(y)));
    }
}
