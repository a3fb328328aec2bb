/** The upper deck of a bus, for ideas only; ../shared/DOC.md tells what each call answers. */
public final class IdeasDeck {
    public static final int NONE = -1, BAD = -2, NO = -3, FULL = -4;

    private static final int STOPS = 10;
    private static final int LAST_STOP = STOPS - 1;
    private static final int MOST_HEIGHT = 9;
    private static final int MOST_ROOM = 7;
    private static final int FIRST_ROOM = 4;
    private static final int MOST_IDEAS = 7;
    private static final int MOST_FEET = 9;
    private static final int MOST_ON = 8;
    private static final int MOST_OFF = 9;
    private static final int MOST_NOTES = 6;
    private static final int MOST_NOTED_SWAY = 40;
    private static final int MOST_NOTED_TALL = 9;
    private static final int MOST_UNDONE = 8;
    private static final int MOST_BYTES = 150;
    private static final int MOST_BYTE = 127;
    private static final int MOST_SET_SWAY = 200;
    private static final int MOST_SITTING = 60;
    private static final int MOST_SEED = 999999;
    private static final int MOST_DAYS = 60;
    private static final int ODDS = 10;
    private static final int IMAGES = 2;
    private static final int NOT_SO_MANY = -5;
    private static final int OTHER_BAD = -10;
    private static final int FIRST_FAULT = -10;
    private static final int DIGEST_START = 1381;

    // The last kind, 5 OLD, is what is left of these.
    private static final int PLAIN = 0, ECONOMY = 1, FEELING = 2, DOUBT = 3, REFORM = 4;
    private static final int KINDS = 6;

    private final Bus bus = new Bus();
    private final Bus[] images = {new Bus(), new Bus()};
    private final boolean[] kept = new boolean[IMAGES];
    private final Journey journey = new Journey();
    private final Decks parting = new Decks();
    private final Sets sets = new Sets();
    private final Two game = new Two();
    private final Fraction fraction = new Fraction();
    private final Reader reader = new Reader();
    private int refusedBad, refusedNo, refusedFull;

    public IdeasDeck() {
    }

    // ---- a bus

    public int bus(int room) {
        if (!within(room, 1, MOST_ROOM)) return refuseBad();
        int were = bus.ideas;
        bus.startAnew();
        bus.room = room;
        return were;
    }

    public int room(int room) {
        if (!within(room, 1, MOST_ROOM)) return refuseBad();
        int was = bus.room;
        bus.room = room;
        bus.undoable = 0;
        return was;
    }

    public int bridge(int s, int height) {
        if (!within(s, 0, LAST_STOP) || !within(height, 0, MOST_HEIGHT)) return refuseBad();
        int was = bus.heights[s];
        bus.heights[s] = height;
        bus.undoable = 0;
        return was;
    }

    public int idea(int kind, int feet, int on, int off) {
        if (!within(kind, 0, KINDS - 1) || !within(feet, 1, MOST_FEET)) return refuseBad();
        if (!within(on, 0, MOST_ON) || !within(off, on + 1, MOST_OFF)) return refuseBad();
        if (bus.ideas >= MOST_IDEAS) return refuseFull();
        bus.addIdea(kind, feet, on, off);
        bus.undoable = 0;
        return bus.ideas - 1;
    }

    public int quarrel(int a, int b, int is) {
        if (!bus.hasTwo(a, b) || !within(is, 0, 1)) return refuseBad();
        int did = bit(bus.quarrels[a], b);
        bus.setQuarrel(a, b, is == 1);
        bus.undoable = 0;
        return did;
    }

    public int type(int c) {
        if (!within(c, 0, MOST_BYTE)) return refuseBad();
        if (reader.length >= MOST_BYTES) return refuseFull();
        reader.addByte(c);
        return reader.length;
    }

    public int clear() {
        int had = reader.length;
        reader.length = 0;
        return had;
    }

    public int read() {
        if (!reader.readBus()) return FIRST_FAULT - reader.place;
        bus.take(reader.told);
        return reader.items;
    }

    // ---- stops

    public int drive(int n) {
        if (!within(n, 1, STOPS)) return refuseBad();
        if (n > STOPS - bus.ride.stop) return refuseNo();
        int before = bus.ride.levy;
        bus.remember();
        for (int passed = 0; passed < n; passed++) bus.passStop(bus.ride, bus.ons, 0);
        return bus.ride.levy - before;
    }

    public int puts(int i) {
        if (!bus.has(i)) return refuseBad();
        if (bit(bus.ride.up, i) == 0) return refuseNo();
        bus.remember();
        bus.ride.up &= ~(1 << i);
        return Integer.bitCount(bus.ride.up);
    }

    public int undo() {
        if (bus.undoable <= 0) return refuseNo();
        bus.goBack();
        return bus.ride.stop;
    }

    public int of(int i, int what) {
        if (!bus.has(i)) return refuseBad();
        switch (what) {
            case 0: return bus.kinds[i];
            case 1: return bus.feet[i];
            case 2: return bus.ons[i];
            case 3: return bus.offs[i];
            case 4: return bit(bus.ride.up, i);
            case 5: return bus.quarrels[i];
            default: return refuseBad();
        }
    }

    public int sways(int i, int s, int what) {
        if (!bus.has(i) || !within(s, 0, LAST_STOP) || !within(what, 0, 1)) return refuseBad();
        return what == 0 ? swayOf(bus.kinds[i], bus.feet[i], s) : tallOf(bus.kinds[i], s);
    }

    public int now(int what) {
        switch (what) {
            case 0: return bus.ride.stop;
            case 1: return bus.ride.up;
            case 2: return bus.ride.scraped;
            case 3: return bus.ride.left;
            case 4: return bus.ride.levy;
            default: return refuseBad();
        }
    }

    // ---- who rides

    public int then(int s, int what) {
        if (!within(s, bus.ride.stop, LAST_STOP) || !within(what, 0, 2)) return refuseBad();
        journey.goOn(bus);
        journey.passThrough(bus, s);
        switch (what) {
            case 0: return journey.ride.up;
            case 1: return bus.swayOfAll(journey.ride.up, s);
            default: return journey.ride.levy;
        }
    }

    public int end(int what) {
        if (!within(what, 0, 2)) return refuseBad();
        journey.goOn(bus);
        journey.passThrough(bus, LAST_STOP);
        switch (what) {
            case 0: return journey.ride.scraped;
            case 1: return journey.ride.left;
            default: return journey.ride.levy;
        }
    }

    public int decks(int i) {
        if (i != NONE && !bus.has(i)) return refuseOtherBad();
        int fewest = parting.fewest(bus);
        return i == NONE ? fewest : parting.deckOf[i];
    }

    public int better() {
        return journey.betterBoarding(bus);
    }

    public int raise() {
        return journey.leastLift(bus);
    }

    public int upstairs(int s, int x, int what) {
        if (!within(s, 0, LAST_STOP) || !within(x, 0, MOST_SET_SWAY)) return refuseBad();
        if (!within(what, 0, 2)) return refuseBad();
        sets.find(bus, s, x);
        switch (what) {
            case 0: return sets.found;
            case 1: return sets.found == 0 ? NONE : sets.inAll;
            default: return sets.inSome;
        }
    }

    // ---- what they are

    public int note(int i, int s, int x, int t) {
        if (!bus.has(i) || !within(s, 0, LAST_STOP)) return refuseBad();
        if (!within(x, 0, MOST_NOTED_SWAY) || !within(t, 0, MOST_NOTED_TALL)) return refuseBad();
        if (bus.notes >= MOST_NOTES) return refuseFull();
        bus.addNote(i, s, x, t);
        return bus.notes;
    }

    public int forget() {
        int were = bus.notes;
        bus.notes = 0;
        return were;
    }

    public int is(int i) {
        if (!bus.has(i)) return refuseBad();
        return bus.kindsByNotes(i);
    }

    public int look(int i) {
        if (!bus.has(i)) return refuseBad();
        return bestLook(bus.kindsByNotes(i), bus.feet[i]);
    }

    public int fare(int n) {
        if (!within(n, 1, MOST_SITTING)) return refuseBad();
        journey.goOn(bus);
        journey.passThrough(bus, LAST_STOP);
        fraction.become(journey.ride.levy, n);
        return 1;
    }

    public int two(int a, int b, int k) {
        if (!bus.hasTwo(a, b) || k < NONE) return refuseOtherBad();
        game.play(bus, journey, a, b);
        if (k == NONE) return game.resting();
        return game.restingAt(k);
    }

    public int bell(int c) {
        if (!within(c, 0, ODDS)) return refuseBad();
        int s = Math.min(bus.ride.stop, LAST_STOP);
        // Each stays by the same odds, so the mean of what is left is that part of the whole.
        fraction.become((long) bus.swayOfAll(bus.ride.up, s) * (ODDS - c), ODDS);
        return 1;
    }

    public int days(int seed, int n) {
        if (!within(seed, 0, MOST_SEED) || !within(n, 0, MOST_DAYS)) return refuseBad();
        return journey.levyOfDays(bus, seed, n);
    }

    // ---- what there is

    public long part(int what) {
        switch (what) {
            case 0: return fraction.above;
            case 1: return fraction.below;
            default: return refuseBad();
        }
    }

    public int image(int i) {
        if (!within(i, 0, IMAGES - 1)) return refuseBad();
        images[i].take(bus);
        kept[i] = true;
        return 1;
    }

    public int from(int i) {
        if (!within(i, 0, IMAGES - 1)) return refuseBad();
        if (!kept[i]) return refuseNo();
        bus.take(images[i]);
        return 1;
    }

    public int status(int what) {
        switch (what) {
            case 0: return refusedBad;
            case 1: return refusedNo;
            case 2: return refusedFull;
            default:
                refuseBad();
                return NONE;
        }
    }

    public int count(int what) {
        switch (what) {
            case 0: return bus.ideas;
            case 1: return bus.room;
            case 2: return bus.countQuarrels();
            case 3: return bus.countBridges();
            case 4: return bus.notes;
            case 5: return bus.undoable;
            case 6: return reader.length;
            default: return refuseBad();
        }
    }

    public long digest() {
        long h = DIGEST_START;
        for (int what = 0; what <= 6; what++) h = 31 * h + count(what);
        for (int what = 0; what <= 4; what++) h = 31 * h + now(what);
        h = bus.mixTold(h);
        h = 31 * h + fraction.above;
        return 31 * h + fraction.below;
    }

    // ---- refusals

    private int refuseBad() {
        refusedBad++;
        return BAD;
    }

    private int refuseOtherBad() {
        refusedBad++;
        return OTHER_BAD;
    }

    private int refuseNo() {
        refusedNo++;
        return NO;
    }

    private int refuseFull() {
        refusedFull++;
        return FULL;
    }

    // ---- small things that all share

    private static boolean within(int number, int least, int most) {
        return number >= least && number <= most;
    }

    private static int bit(int bits, int i) {
        return (bits >> i) & 1;
    }

    // ---- kinds, each told by the one it is under

    private static int swayOf(int kind, int feet, int s) {
        int plain = feet;
        int economy = (plain + 1) / 2;
        switch (kind) {
            case PLAIN: return plain;
            case ECONOMY: return economy;
            case FEELING: return s % 2 == 1 ? 2 * plain : plain;
            case DOUBT: return plain;
            case REFORM: return economy + 1;
            default: return 0;
        }
    }

    private static int tallOf(int kind, int s) {
        int plain = 3;
        int economy = plain - 1;
        int doubt = plain + 2;
        switch (kind) {
            case PLAIN: return plain;
            case ECONOMY: return economy;
            case FEELING: return plain;
            case DOUBT: return doubt;
            case REFORM: return economy + s / 3;
            default: return doubt - 1;
        }
    }

    private static int bestLook(int kindBits, int feet) {
        if (kindBits == 0) return NONE;
        int best = 0;
        int fewest = mostAlike(kindBits, feet, 0);
        for (int s = 1; s < STOPS; s++) {
            int most = mostAlike(kindBits, feet, s);
            if (most < fewest) {
                fewest = most;
                best = s;
            }
        }
        return best;
    }

    private static int mostAlike(int kindBits, int feet, int s) {
        int most = 0;
        for (int kind = 0; kind < KINDS; kind++) {
            if (bit(kindBits, kind) == 1) most = Math.max(most, countAlike(kindBits, kind, feet, s));
        }
        return most;
    }

    private static int countAlike(int kindBits, int kind, int feet, int s) {
        int alike = 0;
        for (int other = 0; other < KINDS; other++) {
            if (bit(kindBits, other) == 1
                    && swayOf(other, feet, s) == swayOf(kind, feet, s)
                    && tallOf(other, s) == tallOf(kind, s)) {
                alike++;
            }
        }
        return alike;
    }

    /** How far a journey has come. */
    private static final class Ride {
        int stop, up, scraped, left, levy;

        void startAnew() {
            stop = 0;
            up = 0;
            scraped = 0;
            left = 0;
            levy = 0;
        }

        void take(Ride other) {
            stop = other.stop;
            up = other.up;
            scraped = other.scraped;
            left = other.left;
            levy = other.levy;
        }
    }

    /** All that an image keeps: what was told, the ride, and what may be undone. */
    private static final class Bus {
        int room = FIRST_ROOM;
        final int[] heights = new int[STOPS];
        int ideas;
        final int[] kinds = new int[MOST_IDEAS];
        final int[] feet = new int[MOST_IDEAS];
        final int[] ons = new int[MOST_IDEAS];
        final int[] offs = new int[MOST_IDEAS];
        final int[] quarrels = new int[MOST_IDEAS];
        int notes;
        final int[] noteIdeas = new int[MOST_NOTES];
        final int[] noteStops = new int[MOST_NOTES];
        final int[] noteSways = new int[MOST_NOTES];
        final int[] noteTalls = new int[MOST_NOTES];
        final Ride ride = new Ride();
        final Ride[] past = new Ride[MOST_UNDONE];
        int undoable;

        Bus() {
            for (int i = 0; i < MOST_UNDONE; i++) past[i] = new Ride();
        }

        void startAnew() {
            room = FIRST_ROOM;
            for (int s = 0; s < STOPS; s++) heights[s] = 0;
            ideas = 0;
            notes = 0;
            ride.startAnew();
            undoable = 0;
        }

        void take(Bus other) {
            room = other.room;
            System.arraycopy(other.heights, 0, heights, 0, STOPS);
            ideas = other.ideas;
            System.arraycopy(other.kinds, 0, kinds, 0, MOST_IDEAS);
            System.arraycopy(other.feet, 0, feet, 0, MOST_IDEAS);
            System.arraycopy(other.ons, 0, ons, 0, MOST_IDEAS);
            System.arraycopy(other.offs, 0, offs, 0, MOST_IDEAS);
            System.arraycopy(other.quarrels, 0, quarrels, 0, MOST_IDEAS);
            notes = other.notes;
            System.arraycopy(other.noteIdeas, 0, noteIdeas, 0, MOST_NOTES);
            System.arraycopy(other.noteStops, 0, noteStops, 0, MOST_NOTES);
            System.arraycopy(other.noteSways, 0, noteSways, 0, MOST_NOTES);
            System.arraycopy(other.noteTalls, 0, noteTalls, 0, MOST_NOTES);
            ride.take(other.ride);
            undoable = other.undoable;
            for (int i = 0; i < MOST_UNDONE; i++) past[i].take(other.past[i]);
        }

        boolean has(int i) {
            return i >= 0 && i < ideas;
        }

        boolean hasTwo(int a, int b) {
            return has(a) && has(b) && a != b;
        }

        void addIdea(int kind, int foot, int on, int off) {
            if (ideas >= MOST_IDEAS) return;
            kinds[ideas] = kind;
            feet[ideas] = foot;
            ons[ideas] = on;
            offs[ideas] = off;
            quarrels[ideas] = 0;
            ideas++;
        }

        void setQuarrel(int a, int b, boolean quarrelling) {
            if (!hasTwo(a, b)) return;
            quarrels[a] = quarrelling ? quarrels[a] | 1 << b : quarrels[a] & ~(1 << b);
            quarrels[b] = quarrelling ? quarrels[b] | 1 << a : quarrels[b] & ~(1 << a);
        }

        void addNote(int i, int s, int x, int t) {
            if (notes >= MOST_NOTES) return;
            noteIdeas[notes] = i;
            noteStops[notes] = s;
            noteSways[notes] = x;
            noteTalls[notes] = t;
            notes++;
        }

        /** Keeps the ride for undo; the oldest one kept gives way to a ninth. */
        void remember() {
            if (undoable >= MOST_UNDONE) {
                Ride oldest = past[0];
                for (int i = 1; i < MOST_UNDONE; i++) past[i - 1] = past[i];
                past[MOST_UNDONE - 1] = oldest;
                undoable = MOST_UNDONE - 1;
            }
            past[undoable].take(ride);
            undoable++;
        }

        void goBack() {
            if (undoable <= 0) return;
            undoable--;
            ride.take(past[undoable]);
        }

        /** One stop, with bridges raised by lift and ideas getting on as boarding says. */
        void passStop(Ride on, int[] boarding, int lift) {
            int s = on.stop;
            if (!within(s, 0, LAST_STOP)) return;
            letOff(on, s);
            letOn(on, s, boarding);
            scrape(on, s, lift);
            on.levy += swayOfAll(on.up, s);
            on.stop = s + 1;
        }

        private void letOff(Ride on, int s) {
            for (int i = 0; i < ideas; i++) {
                if (offs[i] == s) on.up &= ~(1 << i);
            }
        }

        private void letOn(Ride on, int s, int[] boarding) {
            for (int i = 0; i < ideas && i < boarding.length; i++) {
                if (boarding[i] != s) continue;
                boolean fits = Integer.bitCount(on.up) < room && (quarrels[i] & on.up) == 0;
                if (fits) on.up |= 1 << i;
                else on.left |= 1 << i;
            }
        }

        private void scrape(Ride on, int s, int lift) {
            if (heights[s] == 0) return;
            for (int i = 0; i < ideas; i++) {
                if (bit(on.up, i) == 1 && tallOf(kinds[i], s) > heights[s] + lift) {
                    on.up &= ~(1 << i);
                    on.scraped |= 1 << i;
                }
            }
        }

        int swayOfAll(int set, int s) {
            int all = 0;
            for (int i = 0; i < ideas; i++) {
                if (bit(set, i) == 1) all += swayOf(kinds[i], feet[i], s);
            }
            return all;
        }

        boolean quarrelsIn(int set) {
            for (int i = 0; i < ideas; i++) {
                if (bit(set, i) == 1 && (quarrels[i] & set) != 0) return true;
            }
            return false;
        }

        int kindsByNotes(int i) {
            int fitting = 0;
            for (int kind = 0; kind < KINDS; kind++) {
                if (fitsNotes(i, kind)) fitting |= 1 << kind;
            }
            return fitting;
        }

        private boolean fitsNotes(int i, int kind) {
            for (int n = 0; n < notes; n++) {
                if (noteIdeas[n] != i) continue;
                int s = noteStops[n];
                if (swayOf(kind, feet[i], s) != noteSways[n] || tallOf(kind, s) != noteTalls[n]) return false;
            }
            return true;
        }

        int countQuarrels() {
            int ends = 0;
            for (int i = 0; i < ideas; i++) ends += Integer.bitCount(quarrels[i]);
            return ends / 2;
        }

        int countBridges() {
            int bridges = 0;
            for (int s = 0; s < STOPS; s++) {
                if (heights[s] > 0) bridges++;
            }
            return bridges;
        }

        /** The part of the digest for bridges, ideas and notes. */
        long mixTold(long start) {
            long h = start;
            for (int s = 0; s < STOPS; s++) h = 31 * h + heights[s];
            for (int i = 0; i < ideas; i++) {
                h = 31 * h + kinds[i];
                h = 31 * h + feet[i];
                h = 31 * h + ons[i];
                h = 31 * h + offs[i];
                h = 31 * h + quarrels[i];
            }
            for (int n = 0; n < notes; n++) {
                h = 31 * h + noteIdeas[n];
                h = 31 * h + noteStops[n];
                h = 31 * h + noteSways[n];
                h = 31 * h + noteTalls[n];
            }
            return h;
        }
    }

    /** A journey that is only tried: the bus itself stays as it is. */
    private static final class Journey {
        final Ride ride = new Ride();
        final int[] boarding = new int[MOST_IDEAS];
        int lift;

        void goOn(Bus bus) {
            ride.take(bus.ride);
            boardAsTold(bus);
        }

        void startAnew(Bus bus) {
            ride.startAnew();
            boardAsTold(bus);
        }

        private void boardAsTold(Bus bus) {
            System.arraycopy(bus.ons, 0, boarding, 0, MOST_IDEAS);
            lift = 0;
        }

        void passThrough(Bus bus, int lastPassed) {
            for (int s = ride.stop; s <= lastPassed; s++) bus.passStop(ride, boarding, lift);
        }

        private int missing() {
            return Integer.bitCount(ride.left | ride.scraped);
        }

        int betterBoarding(Bus bus) {
            startAnew(bus);
            passThrough(bus, LAST_STOP);
            int fewest = missing();
            int best = NONE;
            for (int i = 0; i < bus.ideas; i++) {
                for (int s = 0; s < bus.offs[i]; s++) {
                    int miss = missingIf(bus, i, s);
                    if (miss < fewest) {
                        fewest = miss;
                        best = 10 * i + s;
                    }
                }
            }
            return best;
        }

        private int missingIf(Bus bus, int i, int s) {
            startAnew(bus);
            if (within(i, 0, MOST_IDEAS - 1)) boarding[i] = s;
            passThrough(bus, LAST_STOP);
            return missing();
        }

        int leastLift(Bus bus) {
            // A bridge of more than MOST_HEIGHT scrapes nobody, so the search ends there at the latest.
            for (int by = 0; by < MOST_HEIGHT; by++) {
                startAnew(bus);
                lift = by;
                passThrough(bus, LAST_STOP);
                if (ride.scraped == 0) return by;
            }
            return MOST_HEIGHT;
        }

        int levyOfDays(Bus bus, int seed, int n) {
            long x = seed;
            int all = 0;
            for (int day = 0; day < n; day++) {
                startAnew(bus);
                for (int i = 0; i < bus.ideas; i++) {
                    x = (x * 1103515245L + 12345L) % 2147483648L;
                    if (bus.offs[i] > 0) boarding[i] = (int) (x / 65536L % bus.offs[i]);
                }
                passThrough(bus, LAST_STOP);
                all += ride.levy;
            }
            return all;
        }
    }

    /** Ideas parted onto decks so that none quarrel. */
    private static final class Decks {
        final int[] deckOf = new int[MOST_IDEAS];

        /** Answers the fewest decks and leaves the first such way in deckOf. */
        int fewest(Bus bus) {
            for (int many = 0; many <= MOST_IDEAS; many++) {
                if (canPlace(bus, deckOf, 0, many)) return many;
            }
            return MOST_IDEAS;
        }

        private static boolean canPlace(Bus bus, int[] deckOf, int i, int many) {
            if (i >= bus.ideas || i >= MOST_IDEAS) return true;
            for (int deck = 0; deck < many; deck++) {
                if (!isCalm(bus, deckOf, i, deck)) continue;
                deckOf[i] = deck;
                if (canPlace(bus, deckOf, i + 1, many)) return true;
            }
            return false;
        }

        private static boolean isCalm(Bus bus, int[] deckOf, int i, int deck) {
            for (int other = 0; other < i; other++) {
                if (deckOf[other] == deck && bit(bus.quarrels[i], other) == 1) return false;
            }
            return true;
        }
    }

    /** Sets of ideas that may have been upstairs, by how much they sway. */
    private static final class Sets {
        int found, inAll, inSome;

        void find(Bus bus, int s, int x) {
            found = 0;
            inAll = (1 << bus.ideas) - 1;
            inSome = 0;
            for (int set = 0; set < 1 << bus.ideas; set++) {
                if (!canBe(bus, set, s, x)) continue;
                found++;
                inAll &= set;
                inSome |= set;
            }
        }

        private static boolean canBe(Bus bus, int set, int s, int x) {
            return Integer.bitCount(set) <= bus.room && bus.swayOfAll(set, s) == x && !bus.quarrelsIn(set);
        }
    }

    /** Two ideas, each of which chooses where to get on. */
    private static final class Two {
        final int[] gainsOfA = new int[STOPS * STOPS];
        final int[] gainsOfB = new int[STOPS * STOPS];
        int choicesOfA, choicesOfB;

        void play(Bus bus, Journey journey, int a, int b) {
            if (!bus.hasTwo(a, b)) return;
            choicesOfA = bus.offs[a];
            choicesOfB = bus.offs[b];
            for (int i = 0; i < choicesOfA; i++) {
                for (int j = 0; j < choicesOfB; j++) {
                    journey.startAnew(bus);
                    journey.boarding[a] = i;
                    journey.boarding[b] = j;
                    countStops(bus, journey, a, b, 10 * i + j);
                }
            }
        }

        private void countStops(Bus bus, Journey journey, int a, int b, int pair) {
            int timesOfA = 0;
            int timesOfB = 0;
            for (int s = 0; s < STOPS; s++) {
                bus.passStop(journey.ride, journey.boarding, journey.lift);
                timesOfA += bit(journey.ride.up, a);
                timesOfB += bit(journey.ride.up, b);
            }
            gainsOfA[pair] = timesOfA;
            gainsOfB[pair] = timesOfB;
        }

        private boolean rests(int i, int j) {
            for (int other = 0; other < choicesOfA; other++) {
                if (gainsOfA[10 * other + j] > gainsOfA[10 * i + j]) return false;
            }
            for (int other = 0; other < choicesOfB; other++) {
                if (gainsOfB[10 * i + other] > gainsOfB[10 * i + j]) return false;
            }
            return true;
        }

        int resting() {
            int many = 0;
            for (int i = 0; i < choicesOfA; i++) {
                for (int j = 0; j < choicesOfB; j++) {
                    if (rests(i, j)) many++;
                }
            }
            return many;
        }

        int restingAt(int k) {
            int seen = 0;
            for (int i = 0; i < choicesOfA; i++) {
                for (int j = 0; j < choicesOfB; j++) {
                    if (!rests(i, j)) continue;
                    if (seen == k) return 10 * i + j;
                    seen++;
                }
            }
            return NOT_SO_MANY;
        }
    }

    /** THE FRACTION, in lowest terms. */
    private static final class Fraction {
        long above = 0, below = 1;

        void become(long newAbove, long newBelow) {
            long divisor = commonDivisor(newAbove, newBelow);
            if (divisor == 0) return;
            above = newAbove / divisor;
            below = newBelow / divisor;
        }

        private static long commonDivisor(long a, long b) {
            long large = a;
            long small = b;
            // Euclid's steps on two longs stay under a hundred.
            for (int step = 0; step < 100 && small != 0; step++) {
                long rest = large % small;
                large = small;
                small = rest;
            }
            return large;
        }
    }

    /** Reads a bus from the text; while it reads, place is where the token at hand begins. */
    private static final class Reader {
        private static final int NOTHING = 0, WORD = 1, NUMBER = 2, MARK = 3, WRONG = 4;

        final int[] text = new int[MOST_BYTES];
        int length;
        final Bus told = new Bus();
        int items;
        int place;
        private int next;
        private int token;
        private int number;

        void addByte(int c) {
            if (length >= MOST_BYTES) return;
            text[length] = c;
            length++;
        }

        /** Whether it could be read: told is the bus then, else place is the fault. */
        boolean readBus() {
            told.startAnew();
            next = 0;
            step();
            if (!isWord("bus") || !readRoom()) return false;
            items = 1;
            for (int guard = 0; guard < MOST_BYTES; guard++) {
                step();
                if (token == NOTHING) return true;
                if (!readItem()) return false;
                items++;
            }
            return true;
        }

        private boolean readItem() {
            if (isWord("bridge")) return readBridge();
            if (isWord("idea")) return readIdea();
            if (isWord("quarrel")) return readQuarrel();
            return false;
        }

        private boolean readRoom() {
            if (!readNumber(1, MOST_ROOM)) return false;
            told.room = number;
            return readMark();
        }

        private boolean readBridge() {
            if (!readNumber(0, LAST_STOP)) return false;
            int s = number;
            if (!readNumber(1, MOST_HEIGHT)) return false;
            if (within(s, 0, LAST_STOP)) told.heights[s] = number;
            return readMark();
        }

        private boolean readIdea() {
            if (told.ideas >= MOST_IDEAS) return false;
            if (!readNumber(0, KINDS - 1)) return false;
            int kind = number;
            if (!readNumber(1, MOST_FEET)) return false;
            int feet = number;
            if (!readNumber(0, MOST_ON)) return false;
            int on = number;
            if (!readNumber(on + 1, MOST_OFF)) return false;
            told.addIdea(kind, feet, on, number);
            return readMark();
        }

        private boolean readQuarrel() {
            if (!readNumber(0, told.ideas - 1)) return false;
            int a = number;
            if (!readNumber(0, told.ideas - 1) || number == a) return false;
            told.setQuarrel(a, number, true);
            return readMark();
        }

        private boolean readNumber(int least, int most) {
            step();
            if (token != NUMBER) return false;
            number = valueOfFigures();
            return within(number, least, most);
        }

        private boolean readMark() {
            step();
            return token == MARK;
        }

        private boolean isWord(String word) {
            if (token != WORD || next - place != word.length()) return false;
            for (int i = 0; i < word.length(); i++) {
                if (byteAt(place + i) != word.charAt(i)) return false;
            }
            return true;
        }

        /** Goes to the next token. */
        private void step() {
            place = endOfRun(next, ' ', ' ');
            int first = byteAt(place);
            if (first == NONE) {
                token = NOTHING;
                next = place;
            } else if (within(first, 'a', 'z')) {
                token = WORD;
                next = endOfRun(place, 'a', 'z');
            } else if (within(first, '0', '9')) {
                next = endOfRun(place, '0', '9');
                token = next - place <= 2 ? NUMBER : WRONG;
            } else {
                token = first == ';' ? MARK : WRONG;
                next = place + 1;
            }
        }

        private int valueOfFigures() {
            int value = 0;
            for (int at = place; at < next; at++) value = 10 * value + byteAt(at) - '0';
            return value;
        }

        /** Where the bytes from a place on are no more of those told. */
        private int endOfRun(int from, int least, int most) {
            if (from < 0) return length;
            for (int at = from; at < length && at < MOST_BYTES; at++) {
                if (text[at] < least || text[at] > most) return at;
            }
            return length;
        }

        private int byteAt(int at) {
            return at >= 0 && at < length ? text[at] : NONE;
        }
    }
}
