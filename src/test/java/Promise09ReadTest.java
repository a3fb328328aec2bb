/** Promise 9: read, with the text of a bus and its faults. */
public final class Promise09ReadTest {
    private static final String SEVEN = "idea 0 1 0 9;".repeat(7);

    public static void main(String[] args) {
        Due.runTests(Promise09ReadTest.class);
    }

    // ---- what is read

    static void answersHowManyItems() {
        reads("bus 4;", 1);
        reads("bus 4;bridge 0 1;", 2);
        reads("bus 1;idea 5 9 8 9;idea 0 1 0 1;quarrel 1 0;", 4);
        reads("bus 7;" + SEVEN, 8);
    }

    static void aBridgeOrQuarrelToldTwiceIsTwoItems() {
        reads("bus 1;bridge 0 1;bridge 9 9;bridge 0 2;", 4);
        reads("bus 1;idea 5 9 8 9;idea 0 1 0 1;quarrel 1 0;quarrel 0 1;", 5);
    }

    static void aTextOf150Bytes() {
        String most = "bus 1;" + "bridge 0 1;".repeat(13) + " ";
        Due.is("its length", most.length(), 150);
        reads(most, 14);
    }

    static void leastAndMostNumbers() {
        reads("bus 1;", 1);
        reads("bus 7;", 1);
        reads("bus 4;bridge 0 1;", 2);
        reads("bus 4;bridge 9 9;", 2);
        reads("bus 4;idea 0 1 0 1;", 2);
        reads("bus 4;idea 5 9 8 9;", 2);
        reads("bus 7;" + SEVEN + "quarrel 0 6;quarrel 6 0;", 10);
    }

    static void twoFiguresAreOneNumber() {
        IdeasDeck x = Buses.of("bus 07;bridge 00 09;idea 05 09 08 09;idea 00 01 00 01;quarrel 00 01;");
        Due.is("room", x.count(1), 7);
        Due.is("kind", x.of(0, 0), 5);
        Due.is("feet", x.of(0, 1), 9);
        Due.is("on", x.of(0, 2), 8);
        Due.is("off", x.of(0, 3), 9);
        Due.is("quarrel", x.of(0, 5), 2);
        Due.is("height", x.bridge(0, 0), 9);
        fault("bus 4;bridge 12;", 13);
        fault("bus 4;idea 1234;", 11);
    }

    static void blanksBetweenTokens() {
        reads("   bus    4   ;   ", 1);
        reads("bus 4 ; idea  0   1    0     1 ; ", 2);
        reads(" bus 4;  bridge 0 1 ;", 2);
    }

    static void noBlanksWhereTokensPartByThemselves() {
        reads("bus4;bridge0 1;idea0 1 0 1;", 3);
    }

    static void allIsAsTold() {
        IdeasDeck x = Buses.of("bus 2; bridge 1 3; bridge 9 4; bridge 1 5; idea 4 7 2 8; idea 1 1 0 1; quarrel 1 0;");
        Due.is("room", x.count(1), 2);
        Due.is("bridges", x.count(3), 2);
        Due.is("ideas", x.count(0), 2);
        Due.is("quarrels", x.count(2), 1);
        int[][] ideas = {{4, 7, 2, 8, 0, 2}, {1, 1, 0, 1, 0, 1}};
        for (int i = 0; i < 2; i++) {
            for (int what = 0; what <= 5; what++) Due.is("of(" + i + ", " + what + ")", x.of(i, what), ideas[i][what]);
        }
        Due.is("height told last", x.bridge(1, 0), 5);
        Due.is("height", x.bridge(9, 0), 4);
    }

    static void aQuarrelToldTwiceStays() {
        IdeasDeck x = Buses.of("bus 2; idea 4 7 2 8; idea 1 1 0 1; quarrel 1 0; quarrel 0 1; quarrel 1 0;");
        Due.is("quarrels", x.count(2), 1);
        Due.is("of(0, 5)", x.of(0, 5), 2);
        Due.is("of(1, 5)", x.of(1, 5), 1);
    }

    // ---- what it takes the place of

    static void itTakesThePlaceOfAllElse() {
        IdeasDeck x = Buses.ridden();
        Buses.tell(x, "bus 4;");
        Due.is("read()", x.read(), 1);
        IdeasDeck y = new IdeasDeck();
        Buses.tell(y, "bus 4;");
        Due.isTrue("as on a new one", Probe.of(x).equals(Probe.of(y)));
    }

    static void theStopIs0NotesNoneNothingToUndo() {
        IdeasDeck x = Buses.rich();
        Due.is("read()", x.read(), 1);
        for (int what = 0; what <= 4; what++) Due.is("now(" + what + ")", x.now(what), 0);
        Due.is("ideas", x.count(0), 0);
        Due.is("bridges", x.count(3), 0);
        Due.is("quarrels", x.count(2), 0);
        Due.is("notes", x.count(4), 0);
        Due.is("count(5)", x.count(5), 0);
        Due.is("undo()", x.undo(), IdeasDeck.NO);
    }

    static void imagesStay() {
        IdeasDeck x = Buses.rich();
        x.read();
        Due.is("from(0)", x.from(0), 1);
        Due.is("its stop", x.now(0), 2);
        Due.is("its notes", x.count(4), 2);
        Due.is("from(1)", x.from(1), 1);
        Due.is("its stop", x.now(0), 0);
    }

    static void theTextStays() {
        IdeasDeck x = Buses.rich();
        Due.is("read()", x.read(), 1);
        Due.is("count(6)", x.count(6), 6);
        Due.is("read() again", x.read(), 1);
        for (char c : "idea 0 1 0 1;".toCharArray()) x.type(c);
        Due.is("read() of more", x.read(), 2);
    }

    static void theFractionStays() {
        IdeasDeck x = Buses.rich();
        x.read();
        Due.is("part(0)", x.part(0), 59);
        Due.is("part(1)", x.part(1), 7);
    }

    static void statusStays() {
        IdeasDeck x = Buses.rich();
        x.now(9);
        x.puts(4);
        x.puts(4);
        x.read();
        Due.is("bad", x.status(0), 1);
        Due.is("no", x.status(1), 2);
        Due.is("full", x.status(2), 0);
    }

    static void nothingOfABusReadBeforeIsLeft() {
        IdeasDeck x = new IdeasDeck();
        Buses.tell(x, "bus 3; bridge 0 1; bridge 9 1; idea 0 1 0 9; idea 0 1 0 9; quarrel 0 1;");
        Due.is("read()", x.read(), 6);
        Buses.tell(x, "bus 4; bridge 5 1; idea 0 1 0 9; idea 0 1 0 9;");
        Due.is("read()", x.read(), 4);
        Due.is("bridges", x.count(3), 1);
        Due.is("quarrels", x.count(2), 0);
        Due.is("of(0, 5)", x.of(0, 5), 0);
    }

    static void nothingOfATextWithAFaultIsLeft() {
        IdeasDeck x = new IdeasDeck();
        Buses.tell(x, "bus 3; bridge 0 1; idea 0 1 0 9; idea 0 1 0 9; quarrel 0 1; bus");
        Due.is("read()", x.read(), -70);
        Buses.tell(x, "bus 4; idea 0 1 0 9; idea 0 1 0 9;");
        Due.is("read()", x.read(), 3);
        Due.is("bridges", x.count(3), 0);
        Due.is("quarrels", x.count(2), 0);
    }

    static void whatIsReadIsApartFromTheText() {
        IdeasDeck x = new IdeasDeck();
        Buses.tell(x, "bus 3; idea 0 1 0 9;");
        x.read();
        x.bridge(0, 1);
        x.drive(1);
        x.idea(0, 1, 0, 1);
        Due.is("read() again", x.read(), 2);
        Due.is("bridges", x.count(3), 0);
        Due.is("ideas", x.count(0), 1);
        Due.is("the stop", x.now(0), 0);
    }

    // ---- faults

    static void anEmptyText() {
        fault("", 0);
    }

    static void blanksAlone() {
        fault(" ", 1);
        fault("   ", 3);
        fault(" ".repeat(150), 150);
    }

    static void itEndsTooEarly() {
        fault("bus", 3);
        fault("bus ", 4);
        fault("bus 4", 5);
        fault("bus 4  ", 7);
        fault("bus 4; bridge", 13);
        fault("bus 4; bridge 9", 15);
        fault("bus 4; bridge 9 1", 17);
        fault("bus 4; idea", 11);
        fault("bus 4; idea ", 12);
        fault("bus 4; idea 5", 13);
        fault("bus 4; idea 5 9", 15);
        fault("bus 4; idea 5 9 8", 17);
        fault("bus 4; idea 5 9 8 9", 19);
        fault("bus 4;idea 0 1 0 1;idea 0 1 0 1;quarrel", 39);
        fault("bus 4;idea 0 1 0 1;idea 0 1 0 1;quarrel 0", 41);
        fault("bus 4;idea 0 1 0 1;idea 0 1 0 1;quarrel 0 1", 43);
        fault("bus 4;idea 0 1 0 1;idea 0 1 0 1;quarrel 0 1   ", 46);
    }

    static void itEndsTooEarlyAt150() {
        String most = "bus 1;" + "bridge 0 1;".repeat(12) + "bridge    01";
        Due.is("its length", most.length(), 150);
        fault(most, 150);
    }

    static void aWordThatIsNone() {
        fault("bu", 0);
        fault("buss 4;", 0);
        fault("bas 4;", 0);
        fault("cus 4;", 0);
        fault("but 4;", 0);
        fault("x", 0);
        fault("  busbus 4;", 2);
        fault("bus 4; a", 7);
        fault("bus 4; z", 7);
        fault("bus 4; bridg 0 1;", 7);
        fault("bus 4; bridges 0 1;", 7);
        fault("bus 4; brigde 0 1;", 7);
        fault("bus 4; ide", 7);
        fault("bus 4; idee 0 1 0 1;", 7);
        fault("bus 4; ideas 0 1 0 1;", 7);
        fault("bus 4; quarral 0 1;", 7);
        fault("bus 4; quarre 0 1;", 7);
        fault("bus 4; quarrels 0 1;", 7);
    }

    static void aWordWithALetterTooMany() {
        for (char c = 'a'; c <= 'z'; c++) {
            fault("bus" + c + " 4;", 0);
            fault(c + "bus 4;", 0);
            fault("bus 4; bridge" + c + " 0 1;", 7);
            fault("bus 4; idea" + c + " 0 1 0 1;", 7);
            fault("bus 4;idea 0 1 0 1;idea 0 1 0 1; quarrel" + c + " 0 1;", 33);
        }
    }

    static void aWordWhereANumberIsDue() {
        fault("bus four;", 4);
        fault("bus bus 4;", 4);
        fault("bus idea 0 1 0 1;", 4);
        fault("bus 4; bridge x 1;", 14);
        fault("bus 4; bridge 1 x;", 16);
        fault("bus 4; idea 5 9 8 x;", 18);
        fault("bus 4;idea 0 1 0 1;quarrel x 1;", 27);
        fault("bus 4;idea 0 1 0 1;quarrel 0 x;", 29);
    }

    static void figuresOrLettersThatWouldWrapAround() {
        // Each would be 4, counted as figures in 32 bits.
        fault("bus 4294967300;", 4);
        fault("bus 18446744073709551620;", 4);
        fault("bus vicvqqefoztur;", 4);
    }

    static void aWordWhereTheItemEnds() {
        fault("bus 4 bridge 0 1;", 6);
        fault("bus 4bridge 0 1;", 5);
        fault("bus 4; bridge 0 1 idea 0 1 0 1;", 18);
        fault("bus 4; idea 5 9 8 9bus;", 19);
        fault("bus 4;idea 0 1 0 1;idea 0 1 0 1;quarrel 0 1 x;", 44);
    }

    static void busAgain() {
        fault("bus 4; bus 4;", 7);
        fault("bus 4;bus", 6);
        fault("bus 4; idea 0 1 0 1; bus 5;", 21);
    }

    static void anythingAheadOfBus() {
        fault("bridge 0 1; bus 4;", 0);
        fault(" idea 0 1 0 1; bus 4;", 1);
        fault("quarrel 0 1; bus 4;", 0);
        fault(";bus 4;", 0);
        fault("  ; bus 4;", 2);
        fault("4;", 0);
        fault("4 bus 4;", 0);
        fault("444 bus 4;", 0);
        fault("- bus 4;", 0);
    }

    static void sevenIdeasAreRead() {
        reads("bus 7;" + SEVEN, 8);
    }

    static void anEighthIdeaAtItsWord() {
        fault("bus 7;" + SEVEN + "idea 0 1 0 9;", 97);
        fault("bus 7;" + SEVEN + "  idea 0 1 0 9;", 99);
        fault("bus 7;" + SEVEN + "idea", 97);
        fault("bus 7;" + SEVEN + "idea 9", 97);
        fault("bus 7;" + SEVEN + "bridge 0 1;idea 0 1 0 9;", 108);
        fault("bus 7;" + SEVEN + "ide", 97);
    }

    static void aRunOfThreeFiguresOrMore() {
        fault("bus 004;", 4);
        fault("bus 000;", 4);
        fault("bus 0004", 4);
        fault("bus 123456789012345678901234567890;", 4);
        fault("bus 4; bridge 001 1;", 14);
        fault("bus 4; bridge 1 001;", 16);
        fault("bus 4; idea 000 1 0 1;", 12);
        fault("bus 4; idea 0 001 0 1;", 14);
        fault("bus 4; idea 0 1 000 1;", 16);
        fault("bus 4; idea 0 1 0 001;", 18);
        fault("bus 4;idea 0 1 0 1;idea 0 1 0 1;quarrel 000 1;", 40);
        fault("bus 4;idea 0 1 0 1;idea 0 1 0 1;quarrel 0 001;", 42);
        fault("bus 4 004;", 6);
        fault("bus 4;004", 6);
    }

    static void aRoomNotAsTold() {
        fault("bus 0;", 4);
        fault("bus 8;", 4);
        fault("bus 10;", 4);
        fault("bus 99", 4);
    }

    static void aBridgeNotAsTold() {
        fault("bus 4; bridge 10 1;", 14);
        fault("bus 4; bridge 99 1;", 14);
        fault("bus 4; bridge 9 0;", 16);
        fault("bus 4; bridge 9 00;", 16);
        fault("bus 4; bridge 9 10;", 16);
    }

    static void anIdeaNotAsTold() {
        fault("bus 4; idea 6 1 0 1;", 12);
        fault("bus 4; idea 10 1 0 1;", 12);
        fault("bus 4; idea 5 0 0 1;", 14);
        fault("bus 4; idea 5 10 0 1;", 14);
        fault("bus 4; idea 5 9 9 9;", 16);
        fault("bus 4; idea 5 9 10 9;", 16);
        fault("bus 4; idea 5 9 8 10;", 18);
        fault("bus 4; idea 5 9 0 0;", 18);
    }

    static void anOffThatIsNotLater() {
        fault("bus 4; idea 5 9 8 8;", 18);
        fault("bus 4; idea 5 9 3 3;", 18);
        fault("bus 4; idea 5 9 3 2;", 18);
        fault("bus 4; idea 5 9 8 0", 18);
    }

    static void anIdeaThatIsNotThereYet() {
        fault("bus 4; quarrel 0 1;", 15);
        fault("bus 4;idea 0 1 0 1;quarrel 1 0;", 27);
        fault("bus 4;idea 0 1 0 1;quarrel 0 1;", 29);
        fault("bus 4;idea 0 1 0 1;quarrel 0 1;idea 0 1 0 1;", 29);
        fault("bus 4;idea 0 1 0 1;idea 0 1 0 1;quarrel 2 0;", 40);
        fault("bus 4;idea 0 1 0 1;idea 0 1 0 1;quarrel 0 2;", 42);
        fault("bus 7;" + SEVEN + "quarrel 0 7;", 107);
    }

    static void twoAlike() {
        fault("bus 4;idea 0 1 0 1;quarrel 0 0;", 29);
        fault("bus 4;idea 0 1 0 1;idea 0 1 0 1;quarrel 1 1;", 42);
        fault("bus 4;idea 0 1 0 1;idea 0 1 0 1;quarrel 1 01;", 42);
        fault("bus 7;" + SEVEN + "quarrel 6 6", 107);
    }

    static void aByteThatBeginsNone() {
        for (char c = 0; c < 128; c++) {
            boolean begins = c >= 'a' && c <= 'z' || c >= '0' && c <= '9' || c == ';' || c == ' ';
            if (begins) continue;
            fault(c + "bus 4;", 0);
            fault("bus" + c + "4;", 3);
            fault("bus 4" + c + ";", 5);
            fault("bus 4;" + c, 6);
            fault("bus 4; idea 0 " + c, 14);
        }
    }

    static void aByteThatBeginsNoneWithinAWordEndsIt() {
        fault("bU 4;", 0);
        fault("bUs 4;", 0);
        fault("Bus 4;", 0);
        fault("bus 4; id-ea 0 1 0 1;", 7);
    }

    static void aByteThatBeginsNoneWithinANumberEndsIt() {
        fault("bus 4.0;", 5);
        fault("bus 4; bridge 1-1;", 15);
        fault("bus -4;", 4);
        fault("bus +4;", 4);
    }

    static void aMarkWhereANumberIsDue() {
        fault("bus ;", 4);
        fault("bus;", 3);
        fault("bus 4; bridge;", 13);
        fault("bus 4; bridge 9;", 15);
        fault("bus 4; idea 5 9 8;", 17);
        fault("bus 4;idea 0 1 0 1;quarrel 0;", 28);
    }

    static void aMarkWhereAnItemIsDue() {
        fault(";", 0);
        fault("bus 4;;", 6);
        fault("bus 4; ;", 7);
        fault("bus 4; bridge 0 1;;", 18);
    }

    static void aNumberWhereTheItemEnds() {
        fault("bus 4 4;", 6);
        fault("bus 4; bridge 9 1 1;", 18);
        fault("bus 4; idea 5 9 8 9 9;", 20);
        fault("bus 4;idea 0 1 0 1;idea 0 1 0 1;quarrel 0 1 1;", 44);
    }

    static void aNumberWhereAnItemIsDue() {
        fault("bus 4; 7", 7);
        fault("bus 4;4;", 6);
    }

    static void theFirstOfSeveralFaults() {
        fault("bus 9; bus; 777 -", 4);
        fault("bus 4; idea 6 0 9 0;", 12);
        fault("bus 4; bridge 10 10", 14);
    }

    private static void reads(String text, int items) {
        IdeasDeck x = Buses.ridden();
        Buses.tell(x, text);
        Due.is("read of '" + text + "'", x.read(), items);
        Due.is("the text stays", x.count(6), text.length());
        for (int what = 0; what <= 2; what++) Due.is("status(" + what + ")", x.status(what), 0);
    }

    /** -10 less the fault; all stays, STATUS too. */
    private static void fault(String text, int place) {
        if (text.length() > 150) throw new IllegalStateException("a test's own text is too long: " + text);
        Calls.asks("read of '" + text + "'", () -> withText(text), -10 - place, x -> x.read());
    }

    private static IdeasDeck withText(String text) {
        IdeasDeck x = Buses.rich();
        Buses.tell(x, text);
        return x;
    }
}
