/** Promise 13: of. */
public final class Promise13OfTest {
    public static void main(String[] args) {
        Due.runTests(Promise13OfTest.class);
    }

    static void iIsAnIdeaElseBad() {
        for (int w = 0; w <= 5; w++) {
            int what = w;
            Calls.only("of(i, " + what + ")", Buses::rich, 0, 4, (x, i) -> x.of(i, what));
        }
    }

    static void whatIs0To5ElseBad() {
        Calls.only("of(0, what)", Buses::rich, 0, 5, (x, what) -> x.of(0, what));
    }

    static void noIdeasIsBad() {
        Calls.bad("of(0, 0)", IdeasDeck::new, x -> x.of(0, 0));
    }

    static void bothWrongIsRefusedOnce() {
        Calls.bad("of(5, 6)", x -> x.of(5, 6));
    }

    static void answersOfEach() {
        int[][] due = {{0, 5, 0, 9, 1, 16}, {3, 4, 0, 8, 0, 0}, {2, 3, 1, 6, 0, 0}, {1, 7, 2, 9, 1, 0}, {0, 2, 2, 4, 0, 1}};
        for (int i = 0; i < due.length; i++) {
            for (int w = 0; w <= 5; w++) {
                int one = i;
                int what = w;
                Calls.asks("of(" + i + ", " + w + ")", Buses::rich, due[i][w], x -> x.of(one, what));
            }
        }
    }

    static void upIsOfNow() {
        IdeasDeck x = Buses.of("bus 4; idea 0 4 1 3;");
        for (int stop = 0; stop <= 10; stop++) {
            Due.is("at stop " + stop, x.of(0, 4), stop == 2 || stop == 3 ? 1 : 0);
            if (stop < 10) x.drive(1);
        }
    }
}
