/** Promises 10 to 15: stops. */
public final class StopsTest {
    private static final Due DUE = new Due();

    public static void main(String[] args) {
        drive();
        orderAtAStop();
        scrapedByKind();
        puts();
        undo();
        undoKeepsEight();
        of();
        sways();
        now();
        DUE.end();
    }

    private static void drive() {
        IdeasDeck x = Due.busOf("bus 4; idea 0 4 1 3; idea 2 3 2 9;");
        DUE.is("10 n 0", x.drive(0), IdeasDeck.BAD);
        DUE.is("10 n 11", x.drive(11), IdeasDeck.BAD);
        DUE.is("10 n -1", x.drive(-1), IdeasDeck.BAD);
        DUE.is("10 stop 0", x.drive(1), 0);
        DUE.is("10 stops 1, 2", x.drive(2), 4 + 4 + 3);
        DUE.is("10 the levy", x.now(4), 11);
        DUE.is("10 too many", x.drive(8), IdeasDeck.NO);
        DUE.is("10 the stop stays", x.now(0), 3);
        // Behind 3, 5 and 7 the feeling sways twice; it gets off at 9.
        DUE.is("10 the others", x.drive(7), 6 + 3 + 6 + 3 + 6 + 3 + 0);
        DUE.is("10 it is over", x.now(0), 10);
        DUE.is("10 one more", x.drive(1), IdeasDeck.NO);
        DUE.is("10 bad ahead of no", x.drive(11), IdeasDeck.BAD);
        DUE.is("10 three that may be undone", x.count(5), 3);
        DUE.is("10 bad", x.status(0), 4);
        DUE.is("10 no", x.status(1), 2);
        DUE.is("10 all together", Due.busOf("bus 4; idea 0 4 1 3; idea 2 3 2 9;").drive(10), 38);
    }

    private static void orderAtAStop() {
        IdeasDeck off = Due.busOf("bus 1; idea 0 4 0 2; idea 0 5 2 4;");
        off.drive(3);
        DUE.is("10 off ahead of on", off.now(1), 2);
        IdeasDeck room = Due.busOf("bus 1; idea 0 4 2 4; idea 0 5 2 4;");
        room.drive(3);
        DUE.is("10 by numbers", room.now(1), 1);
        DUE.is("10 the other is left", room.now(3), 2);
        IdeasDeck quarrel = Due.busOf("bus 4; idea 0 4 0 4; idea 0 5 1 4; idea 0 5 1 4; quarrel 0 1;");
        quarrel.drive(2);
        DUE.is("10 who quarrels is left", quarrel.now(3), 2);
        DUE.is("10 the others are up", quarrel.now(1), 5);
        IdeasDeck gone = Due.busOf("bus 4; idea 0 4 0 2; idea 0 5 2 4; quarrel 0 1;");
        gone.drive(3);
        DUE.is("10 no quarrel with who is off", gone.now(1), 2);
        IdeasDeck bridge = Due.busOf("bus 1; bridge 0 4; idea 3 4 0 4; idea 0 5 0 4; idea 0 2 1 4;");
        DUE.is("10 the levy is behind the bridge", bridge.drive(1), 0);
        DUE.is("10 scraped", bridge.now(2), 1);
        DUE.is("10 left ahead of the bridge", bridge.now(3), 2);
        DUE.is("10 room again", bridge.drive(1), 2);
    }

    private static void scrapedByKind() {
        // At stop 3 they are 3, 2, 3, 5, 3 and 4 tall: those taller than the height are scraped off.
        int[] scraped = {63, 63, 61, 40, 8, 0, 0, 0, 0, 0};
        String all = "idea 0 1 3 9; idea 1 1 3 9; idea 2 1 3 9; idea 3 1 3 9; idea 4 1 3 9; idea 5 1 3 9;";
        for (int height = 0; height <= 9; height++) {
            IdeasDeck x = Due.busOf("bus 7;" + all);
            x.bridge(3, height);
            x.drive(4);
            int due = height == 0 ? 0 : scraped[height];
            DUE.is("10 scraped at height " + height, x.now(2), due);
            DUE.is("10 up at height " + height, x.now(1), 63 - due);
            DUE.is("10 left at height " + height, x.now(3), 0);
        }
    }

    private static void puts() {
        IdeasDeck x = Due.busOf("bus 4; idea 0 4 0 9; idea 0 5 0 9; idea 0 6 1 9;");
        DUE.is("11 not up", x.puts(0), IdeasDeck.NO);
        DUE.is("11 none such", x.puts(3), IdeasDeck.BAD);
        DUE.is("11 none such below", x.puts(-1), IdeasDeck.BAD);
        DUE.is("11 nothing to undo", x.count(5), 0);
        x.drive(1);
        DUE.is("11 not up yet", x.puts(2), IdeasDeck.NO);
        DUE.is("11 put off", x.puts(0), 1);
        DUE.is("11 who is up", x.now(1), 2);
        DUE.is("11 not scraped", x.now(2), 0);
        DUE.is("11 not left", x.now(3), 0);
        DUE.is("11 the levy stays", x.now(4), 9);
        DUE.is("11 again", x.puts(0), IdeasDeck.NO);
        DUE.is("11 the last one", x.puts(1), 0);
        DUE.is("11 both may be undone", x.count(5), 3);
        DUE.is("11 it does not come again", x.drive(1), 6);
    }

    private static void undo() {
        IdeasDeck x = Due.busOf("bus 1; bridge 1 2; idea 0 4 0 9; idea 0 5 0 9; idea 0 6 1 9;");
        x.drive(1);
        long behindOne = x.digest();
        x.note(0, 0, 4, 3);
        x.forget();
        DUE.is("12 notes leave what may be undone", x.digest(), behindOne);
        x.puts(0);
        x.drive(3);
        DUE.is("12 the third idea was scraped", x.now(2), 4);
        DUE.is("12 ahead of three stops", x.undo(), 1);
        DUE.is("12 not scraped", x.now(2), 0);
        DUE.is("12 nobody up", x.now(1), 0);
        DUE.is("12 put on again", x.undo(), 1);
        DUE.is("12 as it was", x.digest(), behindOne);
        DUE.is("12 left", x.now(3), 2);
        DUE.is("12 the first stop", x.undo(), 0);
        for (int what = 0; what <= 4; what++) DUE.is("12 now " + what, x.now(what), 0);
        DUE.is("12 none may be", x.undo(), IdeasDeck.NO);
        DUE.is("12 no is counted", x.status(1), 1);
        x.drive(1);
        x.note(0, 0, 4, 3);
        x.undo();
        DUE.is("12 notes stay", x.count(4), 1);
    }

    private static void undoKeepsEight() {
        IdeasDeck x = new IdeasDeck();
        for (int stop = 1; stop <= 10; stop++) {
            x.drive(1);
            DUE.is("12 that may be undone", x.count(5), Math.min(stop, 8));
        }
        for (int stop = 9; stop >= 2; stop--) DUE.is("12 undo", x.undo(), stop);
        DUE.is("12 the ninth is gone", x.undo(), IdeasDeck.NO);
    }

    private static void of() {
        IdeasDeck x = Due.busOf("bus 4; idea 3 4 1 9; idea 5 7 0 6; quarrel 0 1;");
        int[] due = {5, 7, 0, 6, 0, 1};
        for (int what = 0; what < due.length; what++) DUE.is("13 of 1 " + what, x.of(1, what), due[what]);
        x.drive(1);
        DUE.is("13 up", x.of(1, 4), 1);
        DUE.is("13 not up", x.of(0, 4), 0);
        DUE.is("13 what 6", x.of(1, 6), IdeasDeck.BAD);
        DUE.is("13 what -1", x.of(1, -1), IdeasDeck.BAD);
        DUE.is("13 idea 2", x.of(2, 0), IdeasDeck.BAD);
        DUE.is("13 idea -1", x.of(-1, 0), IdeasDeck.BAD);
        DUE.is("13 bad is counted", x.status(0), 4);
    }

    private static void sways() {
        int[][] talls = {{3, 3, 3, 3, 3, 3, 3, 3, 3, 3}, {2, 2, 2, 2, 2, 2, 2, 2, 2, 2},
            {3, 3, 3, 3, 3, 3, 3, 3, 3, 3}, {5, 5, 5, 5, 5, 5, 5, 5, 5, 5},
            {2, 2, 2, 3, 3, 3, 4, 4, 4, 5}, {4, 4, 4, 4, 4, 4, 4, 4, 4, 4}};
        int[] halves = {0, 1, 1, 2, 2, 3, 3, 4, 4, 5};
        for (int feet = 1; feet <= 9; feet++) {
            IdeasDeck x = new IdeasDeck();
            for (int kind = 0; kind <= 5; kind++) x.idea(kind, feet, 0, 9);
            for (int s = 0; s <= 9; s++) {
                int[] due = {feet, halves[feet], s % 2 == 1 ? 2 * feet : feet, feet, halves[feet] + 1, 0};
                for (int kind = 0; kind <= 5; kind++) {
                    String call = "14 kind " + kind + " feet " + feet + " stop " + s;
                    DUE.is(call + " sways", x.sways(kind, s, 0), due[kind]);
                    DUE.is(call + " tall", x.sways(kind, s, 1), talls[kind][s]);
                }
            }
            int[][] bad = {{6, 0, 0}, {-1, 0, 0}, {0, -1, 0}, {0, 10, 0}, {0, 0, 2}, {0, 0, -1}};
            for (int[] b : bad) DUE.is("14 bad", x.sways(b[0], b[1], b[2]), IdeasDeck.BAD);
            DUE.is("14 bad is counted", x.status(0), bad.length);
        }
    }

    private static void now() {
        IdeasDeck x = Due.busOf("bus 2; bridge 0 3; idea 3 4 0 9; idea 0 5 0 9; idea 0 6 0 9;");
        x.drive(1);
        int[] due = {1, 2, 1, 4, 5};
        for (int what = 0; what < due.length; what++) DUE.is("15 now " + what, x.now(what), due[what]);
        DUE.is("15 what 5", x.now(5), IdeasDeck.BAD);
        DUE.is("15 what -1", x.now(-1), IdeasDeck.BAD);
        DUE.is("15 bad is counted", x.status(0), 2);
    }
}
