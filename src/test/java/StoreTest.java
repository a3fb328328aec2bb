/** Promises 30 to 35: what there is. */
public final class StoreTest {
    private static final Due DUE = new Due();

    public static void main(String[] args) {
        part();
        images();
        imagesAreApart();
        status();
        count();
        digest();
        DUE.end();
    }

    private static void part() {
        IdeasDeck x = Due.busOf("bus 4; idea 0 4 0 9;");
        x.fare(8);
        DUE.is("30 above", x.part(0), 9);
        DUE.is("30 below", x.part(1), 2);
        DUE.is("30 what 2", x.part(2), IdeasDeck.BAD);
        DUE.is("30 what -1", x.part(-1), IdeasDeck.BAD);
        DUE.is("30 bad is counted", x.status(0), 2);
    }

    private static void images() {
        IdeasDeck x = Due.busOf("bus 2; bridge 3 4; idea 0 5 0 9; idea 1 5 0 9; quarrel 0 1;");
        x.note(0, 0, 5, 3);
        x.drive(1);
        x.puts(0);
        DUE.is("31 image -1", x.image(-1), IdeasDeck.BAD);
        DUE.is("31 image 2", x.image(2), IdeasDeck.BAD);
        DUE.is("32 from -1", x.from(-1), IdeasDeck.BAD);
        DUE.is("32 from 2", x.from(2), IdeasDeck.BAD);
        DUE.is("32 none was kept", x.from(0), IdeasDeck.NO);
        DUE.is("31 image 0", x.image(0), 1);
        DUE.is("32 the other was not kept", x.from(1), IdeasDeck.NO);
        long before = x.digest();
        x.bus(7);
        x.idea(3, 3, 3, 4);
        x.note(0, 9, 8, 7);
        x.drive(4);
        x.drive(1);
        x.type('b');
        x.fare(7);
        x.bell(5);
        DUE.is("32 from 0", x.from(0), 1);
        DUE.is("32 the text stays", x.clear(), 1);
        DUE.is("32 status stays", x.status(0), 4);
        DUE.is("32 as it was", x.digest(), before);
        DUE.is("32 undo goes on", x.undo(), 1);
        DUE.is("32 put on again", x.now(1), 1);
        DUE.is("32 undo goes on", x.undo(), 0);
        DUE.is("32 nobody up", x.now(1), 0);
        DUE.is("32 and ends", x.undo(), IdeasDeck.NO);
        DUE.is("32 from 0 once more", x.from(0), 1);
        DUE.is("32 as it was then", x.digest(), before);
        x.fare(7);
        long above = x.part(0);
        x.from(0);
        DUE.is("32 the fraction stays", x.part(0), above);
    }

    private static void imagesAreApart() {
        IdeasDeck x = new IdeasDeck();
        x.idea(0, 5, 0, 9);
        x.image(0);
        x.drive(2);
        x.bridge(4, 4);
        x.image(1);
        x.drive(3);
        x.note(0, 0, 0, 0);
        x.from(0);
        DUE.is("31 image 0: stop", x.now(0), 0);
        DUE.is("31 image 0: bridges", x.count(3), 0);
        x.from(1);
        DUE.is("31 image 1: stop", x.now(0), 2);
        DUE.is("31 image 1: bridges", x.count(3), 1);
        DUE.is("31 image 1: notes", x.count(4), 0);
        x.drive(1);
        x.image(0);
        x.undo();
        x.from(0);
        DUE.is("31 kept anew", x.now(0), 3);
        DUE.is("31 kept anew: undo", x.undo(), 2);
    }

    private static void status() {
        IdeasDeck x = new IdeasDeck();
        x.now(5);
        x.undo();
        x.undo();
        DUE.is("33 bad", x.status(0), 1);
        DUE.is("33 no", x.status(1), 2);
        DUE.is("33 full", x.status(2), 0);
        DUE.is("33 what 3", x.status(3), -1);
        DUE.is("33 what -1", x.status(-1), -1);
        DUE.is("33 they count as bad", x.status(0), 3);
        for (int i = 0; i < 8; i++) x.idea(0, 1, 0, 1);
        for (int i = 0; i < 8; i++) x.note(0, 0, 0, 0);
        DUE.is("33 full", x.status(2), 3);
        x.bus(4);
        DUE.is("33 a bus leaves it", x.status(2), 3);
    }

    private static void count() {
        IdeasDeck x = Due.busOf("bus 5; bridge 0 4; bridge 9 9; bridge 4 1; idea 0 5 0 9; idea 1 5 0 9; idea 1 1 0 1;"
            + "quarrel 0 1; quarrel 2 1; quarrel 1 0;");
        x.note(0, 0, 0, 0);
        x.drive(1);
        x.drive(1);
        x.type(0);
        long[] due = {3, 5, 2, 3, 1, 2, 1};
        for (int what = 0; what < due.length; what++) DUE.is("34 count " + what, x.count(what), due[what]);
        DUE.is("34 what 7", x.count(7), IdeasDeck.BAD);
        DUE.is("34 what -1", x.count(-1), IdeasDeck.BAD);
        DUE.is("34 bad is counted", x.status(0), 2);
    }

    private static void digest() {
        IdeasDeck x = new IdeasDeck();
        DUE.is("35 at first", x.digest(), fold(0, 4, 0, 0, 0, 0, 0, 0, 0, 0, 0, 0,
            0, 0, 0, 0, 0, 0, 0, 0, 0, 0, 0, 1));
        x = Due.busOf("bus 2; bridge 1 3; bridge 9 4; idea 3 5 0 9; idea 1 5 0 9; idea 0 2 0 8; quarrel 0 1;");
        x.drive(2);
        x.note(1, 2, 3, 4);
        x.note(0, 9, 40, 5);
        x.type('x');
        x.fare(15);
        // Up at 0: 0 and 2, swaying 7; 1 is left. Behind 1 the doubt is scraped; 2 goes on to 8.
        DUE.is("35 all of it", x.digest(), fold(3, 2, 1, 2, 2, 1, 1, 2, 4, 1, 2, 9,
            0, 3, 0, 0, 0, 0, 0, 0, 0, 4, 3, 5, 0, 9, 2, 1, 5, 0, 9, 1, 0, 2, 0, 8, 0,
            1, 2, 3, 4, 0, 9, 40, 5, 7, 5));
        DUE.is("35 nothing is refused", x.status(0), 0);
    }

    private static long fold(long... values) {
        long h = 1381;
        for (long v : values) h = 31 * h + v;
        return h;
    }
}
