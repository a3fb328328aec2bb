/** All that can be seen of an object but STATUS, by calls that use it up: two that are alike tell the same. */
final class Probe {
    private Probe() {
    }

    static String of(IdeasDeck x) {
        StringBuilder seen = new StringBuilder();
        for (int what = 0; what <= 6; what++) seen.append(x.count(what)).append(' ');
        for (int what = 0; what <= 4; what++) seen.append(x.now(what)).append(' ');
        seen.append(x.part(0)).append('/').append(x.part(1)).append(' ');
        undoAll(x, seen);
        for (int i = 0; i <= 1; i++) {
            seen.append("image ").append(x.from(i)).append(' ');
            undoAll(x, seen);
        }
        seen.append("text ").append(x.read()).append(' ').append(x.digest());
        return seen.toString();
    }

    private static void undoAll(IdeasDeck x, StringBuilder seen) {
        seen.append(x.digest()).append(' ');
        for (int n = 0; n < 9; n++) {
            if (x.undo() < 0) return;
            seen.append(x.digest()).append(' ');
        }
    }
}
