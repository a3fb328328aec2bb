/** Promises 22 to 29: what they are. */
public final class KnowingTest {
    private static final Due DUE = new Due();

    public static void main(String[] args) {
        noteAndForget();
        is();
        look();
        fare();
        two();
        twoRefused();
        bell();
        days();
        DUE.end();
    }

    private static void noteAndForget() {
        IdeasDeck x = Due.busOf("bus 4; idea 0 4 0 9; idea 0 5 0 9;");
        int[][] bad = {{2, 0, 0, 0}, {-1, 0, 0, 0}, {0, -1, 0, 0}, {0, 10, 0, 0}, {0, 0, -1, 0}, {0, 0, 41, 0},
            {0, 0, 0, -1}, {0, 0, 0, 10}};
        for (int[] b : bad) DUE.is("22 bad", x.note(b[0], b[1], b[2], b[3]), IdeasDeck.BAD);
        DUE.is("22 bad is counted", x.status(0), bad.length);
        DUE.is("23 nothing to forget", x.forget(), 0);
        for (int n = 1; n <= 6; n++) DUE.is("22 note " + n, x.note(1, 9, 40, 9), n);
        DUE.is("22 a seventh", x.note(0, 0, 0, 0), IdeasDeck.FULL);
        DUE.is("22 bad ahead of full", x.note(2, 0, 0, 0), IdeasDeck.BAD);
        DUE.is("22 full is counted", x.status(2), 1);
        DUE.is("22 six", x.count(4), 6);
        DUE.is("23 forget", x.forget(), 6);
        DUE.is("23 none", x.count(4), 0);
        DUE.is("23 all may be again", x.is(1), 63);
        DUE.is("22 from the front", x.note(0, 0, 0, 0), 1);
    }

    private static void is() {
        IdeasDeck x = Due.busOf("bus 4; idea 5 4 0 9; idea 0 3 0 9;");
        DUE.is("24 no notes", x.is(0), 63);
        // Behind 2 with 4 feet: 4 3, 2 2, 4 3, 4 5, 3 2, 0 4.
        x.note(0, 2, 4, 3);
        DUE.is("24 plain or feeling", x.is(0), 5);
        DUE.is("24 of it alone", x.is(1), 63);
        x.note(0, 3, 8, 3);
        DUE.is("24 feeling", x.is(0), 4);
        x.note(0, 3, 4, 3);
        DUE.is("24 nothing", x.is(0), 0);
        int[][] fit = {{0, 4, 3, 5}, {0, 2, 2, 2}, {0, 4, 5, 8}, {0, 3, 2, 16}, {0, 0, 4, 32}, {6, 3, 4, 16},
            {0, 4, 2, 0}};
        for (int[] f : fit) {
            x.forget();
            x.note(0, f[0], f[1], f[2]);
            DUE.is("24 by " + f[1] + " " + f[2], x.is(0), f[3]);
        }
        DUE.is("24 idea 2", x.is(2), IdeasDeck.BAD);
        DUE.is("24 idea -1", x.is(-1), IdeasDeck.BAD);
        DUE.is("24 bad is counted", x.status(0), 2);
    }

    private static void look() {
        IdeasDeck x = Due.busOf("bus 4; idea 0 4 0 9; idea 0 1 0 9;");
        // At even stops plain and feeling are alike, at odd ones none are.
        DUE.is("25 no notes", x.look(0), 1);
        x.note(0, 0, 2, 2);
        DUE.is("25 one kind", x.look(0), 0);
        x.note(0, 0, 3, 2);
        DUE.is("25 no kind", x.look(0), IdeasDeck.NONE);
        DUE.is("25 none is not refused", x.status(0), 0);
        x.forget();
        x.note(0, 2, 4, 3);
        DUE.is("25 plain or feeling", x.look(0), 1);
        DUE.is("25 the other idea", x.look(1), 1);
        long before = x.digest();
        x.look(0);
        DUE.is("25 nothing is changed", x.digest(), before);
        DUE.is("25 idea 2", x.look(2), IdeasDeck.BAD);
        DUE.is("25 idea -1", x.look(-1), IdeasDeck.BAD);
        DUE.is("25 bad is counted", x.status(0), 2);
    }

    private static void fare() {
        IdeasDeck x = Due.busOf("bus 4; idea 0 4 0 9;");
        DUE.is("26 n 0", x.fare(0), IdeasDeck.BAD);
        DUE.is("26 n 61", x.fare(61), IdeasDeck.BAD);
        DUE.is("26 refused: above", x.part(0), 0);
        DUE.is("26 refused: below", x.part(1), 1);
        fraction("26 fare 1", x, x.fare(1), 36, 1);
        fraction("26 fare 7", x, x.fare(7), 36, 7);
        fraction("26 fare 8", x, x.fare(8), 9, 2);
        fraction("26 fare 60", x, x.fare(60), 3, 5);
        x.drive(1);
        x.puts(0);
        fraction("26 from here", x, x.fare(6), 2, 3);
        x.bus(4);
        fraction("26 no levy", x, x.fare(59), 0, 1);
        DUE.is("26 bad is counted", x.status(0), 2);
    }

    private static void fraction(String call, IdeasDeck x, int answer, long above, long below) {
        DUE.is(call, answer, 1);
        DUE.is(call + " above", x.part(0), above);
        DUE.is(call + " below", x.part(1), below);
    }

    private static void two() {
        // Room for both: each does best to get on at once.
        resting(Due.busOf("bus 4; idea 0 1 5 9; idea 0 1 3 4;"), 0, 1, 0);
        // Room for one, which off 2 and 4: a 0 with b 2 (b gets 2 there); b at 0 would push a to nothing only
        // if a came later, so a stays at 0; with a at 0, b does best at 2.
        resting(Due.busOf("bus 1; idea 0 1 0 2; idea 0 1 0 4;"), 0, 1, 2);
        // The same told the other way round: the lower number gets on first all the same.
        resting(Due.busOf("bus 1; idea 0 1 0 2; idea 0 1 0 4;"), 1, 0, 20);
        // A bridge behind 0 scrapes the doubt: it comes behind it, and stays for 1 and 2.
        resting(Due.busOf("bus 4; bridge 0 4; idea 3 1 0 3; idea 0 1 0 1;"), 0, 1, 10);
        // Both are scraped wherever they get on: every pair rests.
        resting(Due.busOf("bus 4; bridge 0 1; bridge 1 1; idea 0 1 0 2; idea 0 1 0 2;"), 0, 1, 0, 1, 10, 11);
        // A third one holds the only room until the end.
        resting(Due.busOf("bus 1; idea 0 1 0 9; idea 0 1 1 2; idea 0 1 1 2;"), 1, 2, 0, 1, 10, 11);
        // They quarrel and get off as late: the lower one gets on first at 0, the other one nowhere.
        resting(Due.busOf("bus 4; idea 0 1 0 3; idea 0 1 0 3; quarrel 0 1;"), 0, 1, 0, 1, 2);
        IdeasDeck x = Due.busOf("bus 4; idea 0 1 5 9; idea 0 1 3 4;");
        x.drive(7);
        resting(x, 0, 1, 0);
    }

    private static void resting(IdeasDeck x, int a, int b, int... pairs) {
        String call = "27 two(" + a + ", " + b + ")";
        long before = x.digest();
        DUE.is(call, x.two(a, b, IdeasDeck.NONE), pairs.length);
        for (int k = 0; k < pairs.length; k++) DUE.is(call + " " + k, x.two(a, b, k), pairs[k]);
        DUE.is(call + " one too many", x.two(a, b, pairs.length), -5);
        DUE.is(call + " far too many", x.two(a, b, Integer.MAX_VALUE), -5);
        DUE.is(call + " is not refused", x.status(0) + x.status(1) + x.status(2), 0);
        DUE.is(call + " changes nothing", x.digest(), before);
    }

    private static void twoRefused() {
        IdeasDeck x = Due.busOf("bus 4; idea 0 1 5 9; idea 0 1 3 4;");
        int[][] bad = {{0, 0, 0}, {0, 2, 0}, {2, 0, 0}, {-1, 0, 0}, {0, -1, 0}, {0, 1, -2}, {1, 1, -1}};
        for (int[] b : bad) DUE.is("27 bad", x.two(b[0], b[1], b[2]), -10);
        DUE.is("27 they count as bad", x.status(0), bad.length);
    }

    private static void bell() {
        IdeasDeck x = Due.busOf("bus 4; idea 0 4 0 9; idea 2 3 0 9; idea 0 9 1 9;");
        DUE.is("28 c -1", x.bell(-1), IdeasDeck.BAD);
        DUE.is("28 c 11", x.bell(11), IdeasDeck.BAD);
        fraction("28 nobody up", x, x.bell(0), 0, 1);
        x.drive(1);
        // Behind 1, where the feeling sways twice; the third one is not up yet.
        fraction("28 all stay", x, x.bell(0), 10, 1);
        fraction("28 by 3 of 10", x, x.bell(3), 7, 1);
        fraction("28 all get off", x, x.bell(10), 0, 1);
        x.puts(0);
        fraction("28 by 1 of 10", x, x.bell(1), 27, 5);
        fraction("28 by 7 of 10", x, x.bell(7), 9, 5);
        DUE.is("28 they are up all the same", x.now(1), 2);
        x.drive(9);
        fraction("28 it is over", x, x.bell(5), 0, 1);
        DUE.is("28 bad is counted", x.status(0), 2);
    }

    private static void days() {
        IdeasDeck x = Due.busOf("bus 4; idea 0 4 5 9;");
        DUE.is("29 no days", x.days(0, 0), 0);
        // X is 12345 by seed 0: by 65536 cut 0, so on at 0: nine stops of 4.
        DUE.is("29 a day", x.days(0, 1), 36);
        // Then 12345 * 1103515245 + 12345, by 2^31: 1406932606; by 65536: 21468; by 9: 3: six stops.
        DUE.is("29 two days", x.days(0, 2), 36 + 24);
        DUE.is("29 as far as it goes", x.days(999999, 60), byHand(999999, 60, 4, 9));
        DUE.is("29 another seed", x.days(7, 13), byHand(7, 13, 4, 9));
        x.drive(10);
        long before = x.digest();
        DUE.is("29 from stop 0 all the same", x.days(0, 1), 36);
        DUE.is("29 nothing is changed", x.digest(), before);
        // Two ideas: X goes on from one to the next; 12345 and 1406932606: on at 0 and at 21468 by 4, 0.
        DUE.is("29 two ideas", Due.busOf("bus 4; idea 0 4 5 9; idea 0 1 3 4;").days(0, 1), 36 + 4);
        DUE.is("29 two ideas, room for one", Due.busOf("bus 1; idea 0 4 5 9; idea 0 1 3 4;").days(0, 1), 36);
        int[][] bad = {{-1, 1}, {1000000, 1}, {0, -1}, {0, 61}};
        for (int[] b : bad) DUE.is("29 bad", x.days(b[0], b[1]), IdeasDeck.BAD);
        DUE.is("29 bad is counted", x.status(0), bad.length);
    }

    /** One plain idea alone: it pays its feet for each stop from where it gets on. */
    private static long byHand(long seed, int n, int feet, int off) {
        java.math.BigInteger x = java.math.BigInteger.valueOf(seed);
        long all = 0;
        for (int day = 0; day < n; day++) {
            x = x.multiply(java.math.BigInteger.valueOf(1103515245)).add(java.math.BigInteger.valueOf(12345));
            x = x.mod(java.math.BigInteger.valueOf(2147483648L));
            all += feet * (off - x.longValue() / 65536 % off);
        }
        return all;
    }
}
