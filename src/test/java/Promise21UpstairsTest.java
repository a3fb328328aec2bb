/** Promise 21: upstairs. */
public final class Promise21UpstairsTest {
    public static void main(String[] args) {
        Due.runTests(Promise21UpstairsTest.class);
    }

    static void stopIs0To9ElseBad() {
        Calls.only("upstairs(s, 9, 0)", Buses::rich, 0, 9, (x, s) -> x.upstairs(s, 9, 0));
    }

    static void swayIs0To200ElseBad() {
        Calls.only("upstairs(3, x, 0)", Buses::rich, 0, 200, (x, sway) -> x.upstairs(3, sway, 0));
    }

    static void whatIs0To2ElseBad() {
        Calls.only("upstairs(3, 9, what)", Buses::rich, 0, 2, (x, what) -> x.upstairs(3, 9, what));
        Calls.only("upstairs(3, 200, what)", Buses::rich, 0, 2, (x, what) -> x.upstairs(3, 200, what));
    }

    static void allWrongIsRefusedOnce() {
        Calls.bad("upstairs(10, 201, 3)", x -> x.upstairs(10, 201, 3));
    }

    static void nothingIsChanged() {
        // Behind 3 they sway 5, 4, 6, 4 and 2.
        Calls.asks("upstairs(3, 9, 0)", Buses::rich, 2, x -> x.upstairs(3, 9, 0));
        Calls.asks("upstairs(3, 9, 1)", Buses::rich, 1, x -> x.upstairs(3, 9, 1));
        Calls.asks("upstairs(3, 9, 2)", Buses::rich, 11, x -> x.upstairs(3, 9, 2));
        Calls.asks("no set", Buses::rich, IdeasDeck.NONE, x -> x.upstairs(3, 200, 1));
    }

    static void noIdeasTheEmptySet() {
        sets(new IdeasDeck(), 0, 0, 1, 0, 0);
        sets(new IdeasDeck(), 9, 1, 0, IdeasDeck.NONE, 0);
    }

    static void sway0IsTheEmptySetAndTheOldOnes() {
        IdeasDeck x = Buses.of("bus 2; idea 0 3 0 9; idea 5 1 0 9; idea 5 1 0 9; idea 5 1 0 9;");
        // None, one of three, two of three: three have no room.
        sets(x, 0, 0, 7, 0, 14);
    }

    static void noSetIsNoneInAllAndNobodyInSome() {
        IdeasDeck x = Buses.of("bus 7; idea 0 3 0 9;");
        sets(x, 0, 1, 0, IdeasDeck.NONE, 0);
        sets(x, 0, 200, 0, IdeasDeck.NONE, 0);
        for (int what = 0; what <= 2; what++) Due.is("status(" + what + ")", x.status(what), 0);
    }

    static void inAllAndInSome() {
        IdeasDeck x = Buses.of("bus 2; idea 0 3 0 9; idea 0 4 0 9; idea 0 7 0 9; idea 5 1 0 9;");
        sets(x, 0, 7, 3, 0, 15);
        sets(x, 0, 3, 2, 1, 9);
        sets(x, 0, 11, 1, 6, 6);
    }

    static void noMoreThanThereIsRoom() {
        for (int room = 1; room <= 7; room++) {
            IdeasDeck x = new IdeasDeck();
            for (int i = 0; i < 7; i++) x.idea(0, 1, 0, 9);
            x.room(room);
            int[] choose = {1, 7, 21, 35, 35, 21, 7, 1};
            for (int many = 0; many <= 7; many++) {
                Due.is(many + " of 7 in room " + room, x.upstairs(0, many, 0), many <= room ? choose[many] : 0);
            }
        }
    }

    static void noneQuarrellingWithAnother() {
        IdeasDeck x = Buses.of("bus 7; idea 0 3 0 9; idea 0 4 0 9; idea 0 7 0 9; quarrel 1 0;");
        sets(x, 0, 7, 1, 4, 4);
        sets(x, 0, 14, 0, IdeasDeck.NONE, 0);
        sets(x, 0, 10, 1, 5, 5);
    }

    static void behindThatStop() {
        IdeasDeck x = Buses.of("bus 1; idea 2 9 8 9;");
        for (int s = 0; s <= 9; s++) {
            sets(x, s, 9, s % 2 == 0 ? 1 : 0, s % 2 == 0 ? 1 : IdeasDeck.NONE, s % 2 == 0 ? 1 : 0);
            sets(x, s, 18, s % 2 == 1 ? 1 : 0, s % 2 == 1 ? 1 : IdeasDeck.NONE, s % 2 == 1 ? 1 : 0);
        }
    }

    static void ofAllIdeasWhoeverRides() {
        IdeasDeck x = Buses.of("bus 1; idea 0 3 0 1; idea 0 3 8 9;");
        sets(x, 5, 3, 2, 0, 3);
        x.drive(10);
        sets(x, 5, 3, 2, 0, 3);
    }

    static void theMostThatCanSway() {
        IdeasDeck x = new IdeasDeck();
        x.bus(7);
        for (int i = 0; i < 7; i++) x.idea(2, 9, 0, 9);
        sets(x, 9, 126, 1, 127, 127);
        sets(x, 9, 127, 0, IdeasDeck.NONE, 0);
    }

    private static void sets(IdeasDeck x, int s, int sway, int many, int inAll, int inSome) {
        String call = "upstairs(" + s + ", " + sway + ")";
        Due.is(call, x.upstairs(s, sway, 0), many);
        Due.is(call + " in all", x.upstairs(s, sway, 1), inAll);
        Due.is(call + " in some", x.upstairs(s, sway, 2), inSome);
    }
}
