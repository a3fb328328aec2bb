/** What refused calls, and calls that only ask, have in common; each call has an object of its own. */
final class Calls {
    static final int AS_BAD = 0, AS_NO = 1, AS_FULL = 2;

    interface Maker {
        IdeasDeck make();
    }

    interface Call {
        long on(IdeasDeck x);
    }

    interface NumberCall {
        long on(IdeasDeck x, int number);
    }

    private Calls() {
    }

    static void bad(String call, Call c) {
        refused(call, Buses::rich, AS_BAD, IdeasDeck.BAD, c);
    }

    static void bad(String call, Maker from, Call c) {
        refused(call, from, AS_BAD, IdeasDeck.BAD, c);
    }

    static void no(String call, Maker from, Call c) {
        refused(call, from, AS_NO, IdeasDeck.NO, c);
    }

    static void full(String call, Maker from, Call c) {
        refused(call, from, AS_FULL, IdeasDeck.FULL, c);
    }

    /** It answers so, it is counted once, by its reason, and nothing else is changed. */
    static void refused(String call, Maker from, int reason, long want, Call c) {
        IdeasDeck x = from.make();
        long[] before = status(x);
        Due.is(call, c.on(x), want);
        long[] after = status(x);
        for (int what = 0; what <= 2; what++) {
            Due.is(call + ": status " + what, after[what] - before[what], what == reason ? 1 : 0);
        }
        Due.isTrue(call + " changes nothing but STATUS", Probe.of(x).equals(Probe.of(from.make())));
    }

    /** It answers so, it is not counted as refused, and nothing at all is changed. */
    static void asks(String call, Maker from, long want, Call c) {
        IdeasDeck x = from.make();
        long[] before = status(x);
        Due.is(call, c.on(x), want);
        long[] after = status(x);
        for (int what = 0; what <= 2; what++) Due.is(call + ": status " + what, after[what], before[what]);
        Due.isTrue(call + " changes nothing", Probe.of(x).equals(Probe.of(from.make())));
    }

    /** A number may be least .. most, and no other: the others are refused as BAD. */
    static void only(String call, Maker from, int least, int most, NumberCall c) {
        only(call, from, least, most, IdeasDeck.BAD, c);
    }

    static void only(String call, Maker from, int least, int most, long bad, NumberCall c) {
        for (int number = least; number <= most; number++) {
            if (number > least + 300 && number < most) number = most;
            IdeasDeck x = from.make();
            long before = x.status(0);
            c.on(x, number);
            Due.is(call + " may be " + number, x.status(0), before);
        }
        // Behind the nearest come those that would be in range if only their last bits were looked at.
        int[] others = {least - 1, most + 1, least - 2, most + 2, least - 10, most + 100, least + 256, least + 65536,
            least - 65536, least ^ Integer.MIN_VALUE, Integer.MIN_VALUE, Integer.MIN_VALUE + 1, Integer.MAX_VALUE,
            Integer.MAX_VALUE - 1};
        for (int number : others) {
            if (number >= least && number <= most) continue;
            refused(call + " may not be " + number, from, AS_BAD, bad, x -> c.on(x, number));
        }
    }

    static long[] status(IdeasDeck x) {
        return new long[] {x.status(0), x.status(1), x.status(2)};
    }
}
