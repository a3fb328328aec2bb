/** Collects the calls whose answer is not the one that is due. */
final class Due {
    private int wrong;
    private int calls;

    void is(String call, long got, long want) {
        calls++;
        if (got != want) {
            wrong++;
            System.out.println(call + " answered " + got + ", due is " + want);
        }
    }

    void isTrue(String what, boolean holds) {
        is(what, holds ? 1 : 0, 1);
    }

    /** Every test ends here: the exit code tells whether all was as due. */
    void end() {
        System.out.println(wrong == 0 ? calls + " answers are as due" : wrong + " answers are not as due");
        if (wrong != 0) System.exit(1);
    }

    /** Puts a text in the place of the old one. */
    static void tell(IdeasDeck x, String text) {
        x.clear();
        for (int i = 0; i < text.length(); i++) x.type(text.charAt(i));
    }

    static IdeasDeck busOf(String text) {
        IdeasDeck x = new IdeasDeck();
        tell(x, text);
        if (x.read() < 0) throw new IllegalStateException("a test's own text can not be read: " + text);
        x.clear();
        return x;
    }
}
