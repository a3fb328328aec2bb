/** Promises 1 to 9: a bus. */
public final class BusTest {
    private static final Due DUE = new Due();

    public static void main(String[] args) {
        newObject();
        bus();
        room();
        bridge();
        idea();
        quarrel();
        typeAndClear();
        read();
        readReplaces();
        faults();
        DUE.end();
    }

    private static void newObject() {
        IdeasDeck x = new IdeasDeck();
        long[] counts = {0, 4, 0, 0, 0, 0, 0};
        for (int what = 0; what < counts.length; what++) DUE.is("1 count " + what, x.count(what), counts[what]);
        for (int what = 0; what <= 4; what++) DUE.is("1 now " + what, x.now(what), 0);
        for (int what = 0; what <= 2; what++) DUE.is("1 status " + what, x.status(what), 0);
        for (int s = 0; s <= 9; s++) DUE.is("1 bridge " + s, x.bridge(s, 0), 0);
        DUE.is("1 part above", x.part(0), 0);
        DUE.is("1 part below", x.part(1), 1);
        DUE.is("1 no image 0", x.from(0), IdeasDeck.NO);
        DUE.is("1 no image 1", x.from(1), IdeasDeck.NO);
        DUE.is("1 nothing to undo", x.undo(), IdeasDeck.NO);
        DUE.is("1 no idea", x.of(0, 0), IdeasDeck.BAD);
    }

    private static void bus() {
        IdeasDeck x = Due.busOf("bus 2; bridge 0 4; bridge 9 4; idea 0 5 0 9; idea 1 5 0 9; quarrel 0 1;");
        x.note(0, 0, 5, 3);
        x.drive(1);
        x.image(1);
        x.type('b');
        x.fare(3);
        long above = x.part(0);
        DUE.is("2 bus 0", x.bus(0), IdeasDeck.BAD);
        DUE.is("2 bus 8", x.bus(8), IdeasDeck.BAD);
        DUE.is("2 refused changes nothing", x.count(0), 2);
        DUE.is("2 bus 7", x.bus(7), 2);
        long[] counts = {0, 7, 0, 0, 0, 0, 1};
        for (int what = 0; what < counts.length; what++) DUE.is("2 count " + what, x.count(what), counts[what]);
        for (int what = 0; what <= 4; what++) DUE.is("2 now " + what, x.now(what), 0);
        DUE.is("2 the fraction stays", x.part(0), above);
        DUE.is("2 status stays", x.status(0), 2);
        DUE.is("2 undo", x.undo(), IdeasDeck.NO);
        DUE.is("2 bus 1", x.bus(1), 0);
        DUE.is("2 least room", x.count(1), 1);
        DUE.is("2 an idea comes", x.idea(0, 1, 0, 1), 0);
        DUE.is("2 it has no old quarrel", x.of(0, 5), 0);
        DUE.is("2 images stay", x.from(1), 1);
        DUE.is("2 the image's ideas", x.count(0), 2);
    }

    private static void room() {
        IdeasDeck x = Due.busOf("bus 3; idea 0 1 0 9; idea 0 2 0 9; idea 0 3 1 9;");
        DUE.is("3 room 0", x.room(0), IdeasDeck.BAD);
        DUE.is("3 room 8", x.room(8), IdeasDeck.BAD);
        DUE.is("3 room -1", x.room(-1), IdeasDeck.BAD);
        DUE.is("3 room 7", x.room(7), 3);
        DUE.is("3 room 1", x.room(1), 7);
        DUE.is("3 room told", x.count(1), 1);
        DUE.is("3 one rides", x.then(0, 0), 1);
        x.room(2);
        x.drive(1);
        DUE.is("3 undo may be", x.count(5), 1);
        DUE.is("3 a refused room leaves it", x.room(8), IdeasDeck.BAD);
        DUE.is("3 undo may still be", x.count(5), 1);
        DUE.is("3 room told behind a stop", x.room(1), 2);
        DUE.is("3 nothing to undo", x.count(5), 0);
        DUE.is("3 those up stay up", x.now(1), 3);
        x.drive(1);
        DUE.is("3 no room for a third", x.now(3), 4);
    }

    private static void bridge() {
        IdeasDeck x = new IdeasDeck();
        DUE.is("4 a bridge", x.bridge(0, 9), 0);
        DUE.is("4 another height", x.bridge(0, 1), 9);
        DUE.is("4 the last stop", x.bridge(9, 5), 0);
        DUE.is("4 two bridges", x.count(3), 2);
        DUE.is("4 taken away", x.bridge(0, 0), 1);
        DUE.is("4 one bridge", x.count(3), 1);
        DUE.is("4 stop -1", x.bridge(-1, 1), IdeasDeck.BAD);
        DUE.is("4 stop 10", x.bridge(10, 1), IdeasDeck.BAD);
        DUE.is("4 height -1", x.bridge(0, -1), IdeasDeck.BAD);
        DUE.is("4 height 10", x.bridge(0, 10), IdeasDeck.BAD);
        x.drive(1);
        x.bridge(10, 1);
        DUE.is("4 refused: undo stays", x.count(5), 1);
        x.bridge(9, 5);
        DUE.is("4 told again: nothing to undo", x.count(5), 0);
    }

    private static void idea() {
        IdeasDeck x = new IdeasDeck();
        int[][] bad = {{-1, 1, 0, 1}, {6, 1, 0, 1}, {0, 0, 0, 1}, {0, 10, 0, 1}, {0, 1, -1, 1}, {0, 1, 9, 9},
            {0, 1, 9, 10}, {0, 1, 0, 0}, {0, 1, 3, 3}, {0, 1, 4, 3}, {0, 1, 0, 10}};
        for (int[] b : bad) DUE.is("5 bad idea", x.idea(b[0], b[1], b[2], b[3]), IdeasDeck.BAD);
        DUE.is("5 none came", x.count(0), 0);
        DUE.is("5 bad ones are counted", x.status(0), bad.length);
        DUE.is("5 least", x.idea(0, 1, 0, 1), 0);
        DUE.is("5 most", x.idea(5, 9, 8, 9), 1);
        DUE.is("5 of 1 kind", x.of(1, 0), 5);
        DUE.is("5 of 1 feet", x.of(1, 1), 9);
        DUE.is("5 of 1 on", x.of(1, 2), 8);
        DUE.is("5 of 1 off", x.of(1, 3), 9);
        for (int i = 2; i < 7; i++) DUE.is("5 number " + i, x.idea(1, 1, 0, 1), i);
        DUE.is("5 an eighth", x.idea(1, 1, 0, 1), IdeasDeck.FULL);
        DUE.is("5 bad ahead of full", x.idea(6, 1, 0, 1), IdeasDeck.BAD);
        DUE.is("5 full is counted", x.status(2), 1);
        DUE.is("5 seven", x.count(0), 7);
        x.bus(4);
        x.idea(0, 1, 0, 9);
        x.drive(1);
        DUE.is("5 it comes too late to get on", x.idea(0, 1, 0, 9), 1);
        DUE.is("5 nothing to undo", x.count(5), 0);
        DUE.is("5 who is up", x.then(1, 0), 1);
        DUE.is("5 nobody left", x.end(1), 0);
    }

    private static void quarrel() {
        IdeasDeck x = Due.busOf("bus 4; idea 0 1 0 9; idea 0 2 0 9; idea 0 3 0 9;");
        DUE.is("6 they quarrel", x.quarrel(0, 2, 1), 0);
        DUE.is("6 they did", x.quarrel(2, 0, 1), 1);
        DUE.is("6 one pair", x.count(2), 1);
        DUE.is("6 of 0", x.of(0, 5), 4);
        DUE.is("6 of 1", x.of(1, 5), 0);
        DUE.is("6 of 2", x.of(2, 5), 1);
        DUE.is("6 who is up", x.then(0, 0), 3);
        DUE.is("6 peace", x.quarrel(2, 0, 0), 1);
        DUE.is("6 peace for 0", x.of(0, 5), 0);
        DUE.is("6 peace for 2", x.of(2, 5), 0);
        DUE.is("6 peace again", x.quarrel(0, 2, 0), 0);
        DUE.is("6 no pair", x.count(2), 0);
        int[][] bad = {{0, 0, 1}, {-1, 0, 1}, {0, -1, 1}, {3, 0, 1}, {0, 3, 1}, {0, 1, 2}, {0, 1, -1}};
        for (int[] b : bad) DUE.is("6 bad quarrel", x.quarrel(b[0], b[1], b[2]), IdeasDeck.BAD);
        DUE.is("6 still no pair", x.count(2), 0);
        x.drive(1);
        x.quarrel(0, 1, 2);
        DUE.is("6 refused: undo stays", x.count(5), 1);
        x.quarrel(0, 1, 0);
        DUE.is("6 told: nothing to undo", x.count(5), 0);
    }

    private static void typeAndClear() {
        IdeasDeck x = new IdeasDeck();
        DUE.is("7 byte -1", x.type(-1), IdeasDeck.BAD);
        DUE.is("7 byte 128", x.type(128), IdeasDeck.BAD);
        DUE.is("8 nothing yet", x.clear(), 0);
        for (int n = 1; n <= 150; n++) DUE.is("7 type " + n, x.type(n % 2 == 0 ? 0 : 127), n);
        DUE.is("7 one too many", x.type(32), IdeasDeck.FULL);
        DUE.is("7 bad ahead of full", x.type(128), IdeasDeck.BAD);
        DUE.is("7 bytes", x.count(6), 150);
        DUE.is("8 clear", x.clear(), 150);
        DUE.is("8 clear again", x.clear(), 0);
        DUE.is("8 no bytes", x.count(6), 0);
        DUE.is("7 from the front", x.type(98), 1);
    }

    private static void read() {
        reads("bus 4;", 1);
        reads("bus4;", 1);
        reads("  bus  07 ;  ", 1);
        reads("bus 1;bridge 0 1;bridge 9 9;bridge 0 2;", 4);
        reads("bus 1;idea 5 9 8 9;idea 0 1 0 1;quarrel 1 0;quarrel 0 1;", 5);
        StringBuilder seven = new StringBuilder("bus 7;");
        for (int i = 0; i < 7; i++) seven.append("idea 0 1 0 9;");
        reads(seven.toString(), 8);
        IdeasDeck x = Due.busOf("bus 2; bridge 1 3; bridge 1 4; idea 4 7 02 8; idea 1 1 0 1; quarrel 1 0;");
        DUE.is("9 room", x.count(1), 2);
        DUE.is("9 bridges", x.count(3), 1);
        DUE.is("9 kind", x.of(0, 0), 4);
        DUE.is("9 feet", x.of(0, 1), 7);
        DUE.is("9 on", x.of(0, 2), 2);
        DUE.is("9 off", x.of(0, 3), 8);
        DUE.is("9 quarrel", x.of(0, 5), 2);
        DUE.is("9 quarrel back", x.of(1, 5), 1);
        DUE.is("9 height told last", x.bridge(1, 0), 4);
    }

    private static void reads(String text, int items) {
        IdeasDeck x = new IdeasDeck();
        Due.tell(x, text);
        DUE.is("9 read '" + text + "'", x.read(), items);
        DUE.is("9 the text stays", x.count(6), text.length());
    }

    private static void readReplaces() {
        IdeasDeck x = new IdeasDeck();
        Due.tell(x, "bus 3; bridge 0 1; bridge 9 1;");
        DUE.is("9 read a first time", x.read(), 3);
        Due.tell(x, "bus 2; bridge 3 4; idea 0 5 0 9; idea 1 5 0 9; quarrel 0 1;");
        DUE.is("9 read a second time", x.read(), 5);
        DUE.is("9 the old bridges are gone", x.count(3), 1);
        x.note(0, 0, 5, 3);
        x.drive(2);
        x.image(0);
        x.fare(3);
        x.now(9);
        long above = x.part(0);
        Due.tell(x, "bus 5; idea 3 2 1 2;");
        DUE.is("9 read anew", x.read(), 2);
        long[] counts = {1, 5, 0, 0, 0, 0, 20};
        for (int what = 0; what < counts.length; what++) DUE.is("9 count " + what, x.count(what), counts[what]);
        for (int what = 0; what <= 4; what++) DUE.is("9 now " + what, x.now(what), 0);
        DUE.is("9 no old quarrel", x.of(0, 5), 0);
        DUE.is("9 the fraction stays", x.part(0), above);
        DUE.is("9 status stays", x.status(0), 1);
        DUE.is("9 images stay", x.from(0), 1);
        DUE.is("9 the image's stop", x.now(0), 2);
    }

    private static void faults() {
        fault("", 0);
        fault("   ", 3);
        fault("bus", 3);
        fault("bus ", 4);
        fault("bus 4", 5);
        fault("bus 4 ", 6);
        fault("bu", 0);
        fault("buss 4;", 0);
        fault("bas 4;", 0);
        fault("cus 4;", 0);
        fault("but 4;", 0);
        fault("bus 4; idee 0 1 0 1;", 7);
        fault("bus 4; quarral 0 1;", 7);
        fault("Bus 4;", 0);
        fault(" idea 0 1 0 1; bus 4;", 1);
        fault(";bus 4;", 0);
        fault("4;", 0);
        fault("bus 0;", 4);
        fault("bus 8;", 4);
        fault("bus 10;", 4);
        fault("bus 004;", 4);
        fault("bus 004", 4);
        fault("bus four;", 4);
        fault("bus ;", 4);
        fault("bus 4 4;", 6);
        fault("bus 4;;", 6);
        fault("bus 4; bus 4;", 7);
        fault("bus 4; ideas 0 1 0 1;", 7);
        fault("bus 4; 7", 7);
        fault("bus 4; 777", 7);
        fault("bus 4; -", 7);
        fault("bus\t4;", 3);
        fault("bus 4; bridge", 13);
        fault("bus 4; bridge 10 1;", 14);
        fault("bus 4; bridge 9 0;", 16);
        fault("bus 4; bridge 9 10;", 16);
        fault("bus 4; bridge 9;", 15);
        fault("bus 4; idea 6 1 0 1;", 12);
        fault("bus 4; idea 5 0 0 1;", 14);
        fault("bus 4; idea 5 10 0 1;", 14);
        fault("bus 4; idea 5 9 9 9;", 16);
        fault("bus 4; idea 5 9 8 8;", 18);
        fault("bus 4; idea 5 9 3 2;", 18);
        fault("bus 4; idea 5 9 8 10;", 18);
        fault("bus 4; idea 5 9 8 9", 19);
        fault("bus 4; idea 5 9 8 9 9;", 20);
        fault("bus 4; idea 5 9 8 9bus;", 19);
        fault("bus 4; quarrel 0 1;", 15);
        fault("bus 4;idea 0 1 0 1;quarrel 1 0;", 27);
        fault("bus 4;idea 0 1 0 1;quarrel 0 0;", 29);
        fault("bus 4;idea 0 1 0 1;quarrel 0 1;", 29);
        fault("bus 4;idea 0 1 0 1;idea 0 1 0 1;quarrel 0 1 1;", 44);
        fault("bus 4;idea 0 1 0 1;idea 0 1 0 1;quarrel 0 1", 43);
        StringBuilder eight = new StringBuilder("bus 7;");
        for (int i = 0; i < 8; i++) eight.append("idea 0 1 0 9;");
        fault(eight.toString(), 6 + 7 * 13);
    }

    private static void fault(String text, int place) {
        IdeasDeck x = Due.busOf("bus 2; bridge 3 4; idea 0 5 0 9; idea 1 5 0 9; quarrel 0 1;");
        x.note(0, 0, 5, 3);
        x.drive(2);
        Due.tell(x, text);
        long before = x.digest();
        DUE.is("9 fault of '" + text + "'", x.read(), -10 - place);
        DUE.is("9 all stays", x.digest(), before);
        DUE.is("9 status stays", x.status(0) + x.status(1) + x.status(2), 0);
    }
}
