/** Promise 3: room. */
public final class Promise03RoomTest {
    public static void main(String[] args) {
        Due.runTests(Promise03RoomTest.class);
    }

    static void roomIs1To7ElseBad() {
        Calls.only("room(room)", Buses::rich, 1, 7, (x, room) -> x.room(room));
    }

    static void answersWhatItWas() {
        IdeasDeck x = new IdeasDeck();
        Due.is("at first", x.room(7), 4);
        Due.is("then", x.room(1), 7);
        Due.is("refused", x.room(8), IdeasDeck.BAD);
        Due.is("then", x.room(1), 1);
        Due.is("count(1)", x.count(1), 1);
    }

    static void onlyRoomAndWhatMayBeUndoneChange() {
        IdeasDeck x = Buses.rich();
        Due.is("room(5)", x.room(5), 2);
        long[] counts = {5, 5, 1, 2, 2, 0, 6};
        for (int what = 0; what <= 6; what++) Due.is("count(" + what + ")", x.count(what), counts[what]);
        long[] now = {3, 9, 2, 16, 25};
        for (int what = 0; what <= 4; what++) Due.is("now(" + what + ")", x.now(what), now[what]);
        Due.is("part(0)", x.part(0), 59);
        Due.is("part(1)", x.part(1), 7);
    }

    static void thoseUpStayUpInLessRoom() {
        IdeasDeck x = Buses.of("bus 3; idea 0 1 0 9; idea 0 2 0 9; idea 0 3 0 9; idea 0 4 1 9;");
        x.drive(1);
        x.room(1);
        Due.is("up", x.now(1), 7);
        x.drive(1);
        Due.is("they stay", x.now(1), 7);
        Due.is("one more is left", x.now(3), 8);
    }

    static void fullRoomLeavesOneStanding() {
        for (int room = 1; room <= 6; room++) {
            IdeasDeck x = new IdeasDeck();
            for (int i = 0; i < 7; i++) x.idea(0, 1, 0, 9);
            x.room(room);
            x.drive(1);
            Due.is("up by room " + room, x.now(1), (1 << room) - 1);
            Due.is("left by room " + room, x.now(3), 127 - ((1 << room) - 1));
        }
    }

    static void mostRoomTakesAllSeven() {
        IdeasDeck x = new IdeasDeck();
        for (int i = 0; i < 7; i++) x.idea(0, 1, 0, 9);
        x.room(7);
        x.drive(1);
        Due.is("up", x.now(1), 127);
        Due.is("left", x.now(3), 0);
    }

    static void noneMayBeUndoneBehindIt() {
        IdeasDeck x = Buses.ridden();
        x.room(3);
        Due.is("count(5)", x.count(5), 0);
        Due.is("undo()", x.undo(), IdeasDeck.NO);
    }

    static void noneMayBeUndoneThoughItWasTheSame() {
        IdeasDeck x = Buses.ridden();
        Due.is("room(2)", x.room(2), 2);
        Due.is("undo()", x.undo(), IdeasDeck.NO);
    }

    static void whatIsPassedBehindItMayBeUndone() {
        IdeasDeck x = Buses.ridden();
        x.room(3);
        x.drive(1);
        Due.is("count(5)", x.count(5), 1);
        Due.is("undo()", x.undo(), 3);
        Due.is("undo()", x.undo(), IdeasDeck.NO);
    }
}
