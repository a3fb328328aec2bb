/** Promises 16 to 21: who rides. */
public final class RidersTest {
    private static final Due DUE = new Due();

    public static void main(String[] args) {
        then();
        end();
        decks();
        better();
        raise();
        upstairs();
        DUE.end();
    }

    private static void then() {
        IdeasDeck x = Due.busOf("bus 4; idea 0 4 1 3; idea 2 3 2 9;");
        int[] ups = {0, 1, 3, 2, 2, 2, 2, 2, 2, 0};
        int[] sways = {0, 4, 7, 6, 3, 6, 3, 6, 3, 0};
        int[] levies = {0, 4, 11, 17, 20, 26, 29, 35, 38, 38};
        long before = x.digest();
        for (int s = 0; s <= 9; s++) {
            DUE.is("16 up behind " + s, x.then(s, 0), ups[s]);
            DUE.is("16 sway behind " + s, x.then(s, 1), sways[s]);
            DUE.is("16 levy behind " + s, x.then(s, 2), levies[s]);
        }
        DUE.is("16 nothing is changed", x.digest(), before);
        x.drive(3);
        x.puts(1);
        DUE.is("16 a stop that is passed", x.then(2, 0), IdeasDeck.BAD);
        DUE.is("16 from here, the feeling put off", x.then(3, 0), 0);
        DUE.is("16 the levy stays then", x.then(9, 2), 11);
        DUE.is("16 stop 10", x.then(10, 0), IdeasDeck.BAD);
        DUE.is("16 stop -1", x.then(-1, 0), IdeasDeck.BAD);
        DUE.is("16 what 3", x.then(3, 3), IdeasDeck.BAD);
        DUE.is("16 what -1", x.then(3, -1), IdeasDeck.BAD);
        x.drive(7);
        DUE.is("16 it is over", x.then(9, 0), IdeasDeck.BAD);
        DUE.is("16 bad is counted", x.status(0), 6);
    }

    private static void end() {
        IdeasDeck x = Due.busOf("bus 1; bridge 4 2; idea 0 4 0 9; idea 0 3 2 9; idea 0 2 5 6;");
        long before = x.digest();
        DUE.is("17 scraped", x.end(0), 1);
        DUE.is("17 left", x.end(1), 2);
        DUE.is("17 levy", x.end(2), 4 * 4 + 2);
        DUE.is("17 nothing is changed", x.digest(), before);
        x.drive(1);
        x.puts(0);
        DUE.is("17 scraped from here", x.end(0), 2);
        DUE.is("17 left from here", x.end(1), 0);
        DUE.is("17 levy from here", x.end(2), 4 + 2 * 3 + 2);
        DUE.is("17 what 3", x.end(3), IdeasDeck.BAD);
        DUE.is("17 what -1", x.end(-1), IdeasDeck.BAD);
        x.drive(9);
        DUE.is("17 when it is over", x.end(2), x.now(4));
        DUE.is("17 bad is counted", x.status(0), 2);
    }

    private static void decks() {
        IdeasDeck x = new IdeasDeck();
        DUE.is("18 no ideas", x.decks(IdeasDeck.NONE), 0);
        DUE.is("18 no idea 0", x.decks(0), -10);
        DUE.is("18 below", x.decks(-2), -10);
        DUE.is("18 they count as bad", x.status(0), 2);
        for (int i = 0; i < 7; i++) x.idea(0, 1, 0, 9);
        DUE.is("18 peace", x.decks(IdeasDeck.NONE), 1);
        DUE.is("18 idea 7", x.decks(7), -10);
        // A path 0-2-1-3, and then a ring: two decks are enough.
        x.quarrel(0, 2, 1);
        x.quarrel(2, 1, 1);
        x.quarrel(1, 3, 1);
        partedAs(x, 2, 0, 0, 1, 1, 0, 0, 0);
        x.quarrel(0, 3, 1);
        partedAs(x, 2, 0, 0, 1, 1, 0, 0, 0);
        // A path 0-4-5-1: 0 and 1 do not quarrel, but on one deck they would make it three decks.
        x.bus(1);
        for (int i = 0; i < 6; i++) x.idea(0, 1, 0, 9);
        x.quarrel(0, 4, 1);
        x.quarrel(4, 5, 1);
        x.quarrel(5, 1, 1);
        partedAs(x, 2, 0, 1, 0, 0, 1, 0);
        x.bus(1);
        for (int i = 0; i < 7; i++) x.idea(0, 1, 0, 9);
        for (int a = 0; a < 7; a++) {
            for (int b = 0; b < a; b++) x.quarrel(a, b, 1);
        }
        partedAs(x, 7, 0, 1, 2, 3, 4, 5, 6);
    }

    private static void partedAs(IdeasDeck x, int many, int... decks) {
        long before = x.digest();
        DUE.is("18 decks", x.decks(IdeasDeck.NONE), many);
        for (int i = 0; i < decks.length; i++) DUE.is("18 deck of " + i, x.decks(i), decks[i]);
        DUE.is("18 nothing is changed", x.digest(), before);
    }

    private static void better() {
        DUE.is("19 no ideas", new IdeasDeck().better(), IdeasDeck.NONE);
        DUE.is("19 all ride", Due.busOf("bus 1; idea 0 1 0 9;").better(), IdeasDeck.NONE);
        DUE.is("19 nothing helps", Due.busOf("bus 1; idea 0 1 0 9; idea 0 1 0 9;").better(), IdeasDeck.NONE);
        // Idea 0 gets off at 3: idea 1 does well to get on there; 3 to 8 are alike.
        DUE.is("19 later", Due.busOf("bus 1; idea 0 1 0 3; idea 0 1 0 9;").better(), 13);
        DUE.is("19 before the off", Due.busOf("bus 1; idea 0 1 0 3; idea 0 1 0 3;").better(), IdeasDeck.NONE);
        // Idea 1 is in the way of both others; idea 0 at stop 0 gets on ahead of it.
        DUE.is("19 at stop 0", Due.busOf("bus 4; idea 0 1 1 9; idea 0 1 0 9; idea 0 1 2 9; quarrel 1 0; quarrel 1 2;")
            .better(), 0);
        // Any place behind the bridge is as good: the least is told.
        DUE.is("19 behind the bridge", Due.busOf("bus 4; bridge 2 2; idea 0 1 0 9;").better(), 3);
        // Idea 2 has two in its way: that only one of them changes does not help.
        DUE.is("19 one alone does not help", Due.busOf("bus 4; idea 0 1 0 9; idea 0 1 0 9; idea 0 1 0 5; idea 0 1 5 9;"
            + "quarrel 2 0; quarrel 2 1;").better(), IdeasDeck.NONE);
        IdeasDeck x = Due.busOf("bus 4; idea 0 1 0 5; idea 0 1 1 5; idea 0 1 2 9; quarrel 0 1; quarrel 0 2;");
        DUE.is("19 idea 0 is in the way at each stop", x.better(), 2);
        x.drive(5);
        long before = x.digest();
        DUE.is("19 from stop 0 all the same", x.better(), 2);
        DUE.is("19 nothing is changed", x.digest(), before);
    }

    private static void raise() {
        DUE.is("20 no bridge", Due.busOf("bus 1; idea 3 1 0 9;").raise(), 0);
        DUE.is("20 high enough", Due.busOf("bus 1; bridge 0 5; idea 3 1 0 9;").raise(), 0);
        DUE.is("20 by 1", Due.busOf("bus 1; bridge 0 4; idea 3 1 0 9;").raise(), 1);
        DUE.is("20 by 4", Due.busOf("bus 1; bridge 0 1; idea 3 1 0 9;").raise(), 4);
        DUE.is("20 nobody there", Due.busOf("bus 1; bridge 0 1; idea 3 1 1 9;").raise(), 0);
        DUE.is("20 9 and more", Due.busOf("bus 1; bridge 0 9; bridge 1 1; idea 3 1 0 9;").raise(), 4);
        // The plain one stays up once the first bridge is by 1 higher: the doubt finds no room.
        DUE.is("20 who is not scraped takes room",
            Due.busOf("bus 1; bridge 0 2; bridge 1 1; idea 0 1 0 9; idea 3 1 1 9;").raise(), 2);
        IdeasDeck x = Due.busOf("bus 1; bridge 0 1; idea 3 1 0 9;");
        x.raise();
        DUE.is("20 the bridges stay as they are", x.end(0), 1);
        x.drive(1);
        long before = x.digest();
        DUE.is("20 from stop 0 all the same", x.raise(), 4);
        DUE.is("20 nothing is changed", x.digest(), before);
    }

    private static void upstairs() {
        IdeasDeck x = Due.busOf("bus 2; idea 0 3 0 9; idea 0 4 0 9; idea 0 7 0 9; idea 5 1 0 9;");
        // Behind 0 they sway 3, 4, 7 and 0; by room two at most.
        sets(x, 0, 0, 2, 0, 8);
        sets(x, 0, 7, 3, 0, 15);
        sets(x, 0, 3, 2, 1, 9);
        sets(x, 0, 14, 0, IdeasDeck.NONE, 0);
        sets(x, 0, 11, 1, 6, 6);
        x.quarrel(0, 1, 1);
        sets(x, 0, 7, 2, 4, 12);
        x.room(1);
        sets(x, 0, 7, 1, 4, 4);
        sets(x, 9, 200, 0, IdeasDeck.NONE, 0);
        IdeasDeck feeling = Due.busOf("bus 1; idea 2 9 8 9;");
        sets(feeling, 0, 9, 1, 1, 1);
        sets(feeling, 1, 18, 1, 1, 1);
        sets(new IdeasDeck(), 0, 0, 1, 0, 0);
        int[][] bad = {{-1, 0, 0}, {10, 0, 0}, {0, -1, 0}, {0, 201, 0}, {0, 0, -1}, {0, 0, 3}};
        for (int[] b : bad) DUE.is("21 bad", x.upstairs(b[0], b[1], b[2]), IdeasDeck.BAD);
        DUE.is("21 bad is counted", x.status(0), bad.length);
    }

    private static void sets(IdeasDeck x, int s, int sway, int many, int inAll, int inSome) {
        String call = "21 upstairs(" + s + ", " + sway + ")";
        long before = x.digest();
        DUE.is(call, x.upstairs(s, sway, 0), many);
        DUE.is(call + " in all", x.upstairs(s, sway, 1), inAll);
        DUE.is(call + " in some", x.upstairs(s, sway, 2), inSome);
        DUE.is(call + " changes nothing", x.digest(), before);
    }
}
