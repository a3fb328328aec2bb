/** Promise 35: digest. */
public final class Promise35DigestTest {
    public static void main(String[] args) {
        Due.runTests(Promise35DigestTest.class);
    }

    static void ofANewOne() {
        Calls.asks("digest()", IdeasDeck::new, fold(0, 4, 0, 0, 0, 0, 0, 0, 0, 0, 0, 0,
            0, 0, 0, 0, 0, 0, 0, 0, 0, 0, 0, 1), x -> x.digest());
    }

    static void ofARichOne() {
        Calls.asks("digest()", Buses::rich, fold(5, 2, 1, 2, 2, 4, 6, 3, 9, 2, 16, 25,
            4, 0, 0, 0, 0, 2, 0, 0, 0, 0,
            0, 5, 0, 9, 16, 3, 4, 0, 8, 0, 2, 3, 1, 6, 0, 1, 7, 2, 9, 0, 0, 2, 2, 4, 1,
            0, 0, 5, 3, 2, 3, 6, 3, 59, 7), x -> x.digest());
    }

    static void itWrapsAround() {
        // 74 values: 31 to that power is far over what a long holds.
        IdeasDeck x = Buses.full();
        java.math.BigInteger h = java.math.BigInteger.valueOf(1381);
        long[] counts = {7, 7, 0, 0, 6, 3, 150, 3, 63, 0, 0};
        for (long v : counts) h = next(h, v);
        // The levy behind 0, 1, 2: 1 + 1 + 3 + 4 + 4 + 0 + 7, and 3 more behind 1.
        h = next(h, 20 + 23 + 20);
        for (int s = 0; s <= 9; s++) h = next(h, 0);
        for (int i = 0; i < 7; i++) {
            for (long v : new long[] {i % 6, i + 1, 0, 9, 0}) h = next(h, v);
        }
        for (int n = 0; n < 6; n++) {
            for (int part = 0; part < 4; part++) h = next(h, n);
        }
        h = next(next(h, 0), 1);
        Due.isTrue("it is over a long", h.bitLength() > 64);
        Due.is("digest()", x.digest(), h.longValue());
    }

    private static java.math.BigInteger next(java.math.BigInteger h, long v) {
        return h.multiply(java.math.BigInteger.valueOf(31)).add(java.math.BigInteger.valueOf(v));
    }

    static void whatIsNotToldInItLeavesIt() {
        IdeasDeck x = Buses.rich();
        long before = x.digest();
        x.now(9);
        x.image(0);
        x.undo();
        x.drive(1);
        x.clear();
        Buses.tell(x, "abcdef");
        Due.is("status, images, the bytes themselves", x.digest(), before);
    }

    static void whenItIsOver() {
        IdeasDeck x = Buses.over();
        Due.is("digest()", x.digest(), fold(2, 2, 0, 0, 0, 2, 0, 10, 0, 0, 0, 73,
            0, 0, 0, 0, 0, 0, 0, 0, 0, 0, 0, 5, 0, 9, 0, 3, 4, 1, 8, 0, 0, 1));
    }

    static void itCountsNothingAsRefused() {
        IdeasDeck x = Buses.rich();
        x.digest();
        for (int what = 0; what <= 2; what++) Due.is("status(" + what + ")", x.status(what), 0);
    }

    private static long fold(long... values) {
        long h = 1381;
        for (long v : values) h = 31 * h + v;
        return h;
    }
}
