import java.math.BigInteger;
import java.util.ArrayDeque;
import java.util.ArrayList;
import java.util.Arrays;
import java.util.Collections;
import java.util.Deque;
import java.util.HashMap;
import java.util.List;
import java.util.Map;
import java.util.TreeSet;
import java.util.regex.Matcher;
import java.util.regex.Pattern;

/**
 * The document once more, written by other means than the program (sets, copies, whole searches),
 * so that ModelTest can hold the two against each other.
 */
final class DeckModel {
    static class Plain {
        int sway(int f, int s) { return f; }
        int tall(int s) { return 3; }
    }

    static class Economy extends Plain {
        @Override int sway(int f, int s) { return (int) Math.ceil(super.sway(f, s) / 2.0); }
        @Override int tall(int s) { return super.tall(s) - 1; }
    }

    static final class Feeling extends Plain {
        @Override int sway(int f, int s) { return super.sway(f, s) * (1 + s % 2); }
    }

    static class Doubt extends Plain {
        @Override int tall(int s) { return super.tall(s) + 2; }
    }

    static final class Reform extends Economy {
        @Override int sway(int f, int s) { return super.sway(f, s) + 1; }
        @Override int tall(int s) { return super.tall(s) + s / 3; }
    }

    static final class Old extends Doubt {
        @Override int sway(int f, int s) { return 0; }
        @Override int tall(int s) { return super.tall(s) - 1; }
    }

    private static final List<Plain> KINDS =
        List.of(new Plain(), new Economy(), new Feeling(), new Doubt(), new Reform(), new Old());

    record Idea(int kind, int feet, int on, int off) {
        int sway(int s) { return KINDS.get(kind).sway(feet, s); }
        int tall(int s) { return KINDS.get(kind).tall(s); }
        Idea onAt(int s) { return new Idea(kind, feet, s, off); }
    }

    record Note(int i, int s, int x, int t) { }

    record Ride(int stop, TreeSet<Integer> up, TreeSet<Integer> scraped, TreeSet<Integer> left, int levy) { }

    private static final Ride START = new Ride(0, new TreeSet<>(), new TreeSet<>(), new TreeSet<>(), 0);

    /** Never changed once it stands: each call that changes something makes another one. */
    record State(int room, List<Integer> heights, List<Idea> ideas, TreeSet<String> quarrels, List<Note> notes,
                 Ride ride, List<Ride> past) { }

    private static State fresh(int room) {
        return new State(room, Collections.nCopies(10, 0), List.of(), new TreeSet<>(), List.of(), START, List.of());
    }

    private State now = fresh(4);
    private final Map<Integer, State> images = new HashMap<>();
    private final StringBuilder text = new StringBuilder();
    private BigInteger above = BigInteger.ZERO;
    private BigInteger below = BigInteger.ONE;
    private final int[] refused = new int[3];

    private int bad() { refused[0]++; return -2; }
    private int no() { refused[1]++; return -3; }
    private int full() { refused[2]++; return -4; }

    private static boolean in(int v, int a, int b) { return a <= v && v <= b; }

    private boolean isIdea(int i) { return in(i, 0, now.ideas.size() - 1); }

    private static String pair(int a, int b) { return Math.min(a, b) + "-" + Math.max(a, b); }

    private static int bits(Iterable<Integer> set) {
        int b = 0;
        for (int i : set) b += 1 << i;
        return b;
    }

    private static TreeSet<Integer> setOf(int bits) {
        TreeSet<Integer> set = new TreeSet<>();
        for (int i = 0; i < 7; i++) if ((bits & 1 << i) != 0) set.add(i);
        return set;
    }

    private static <T> List<T> with(List<T> old, T more) {
        List<T> made = new ArrayList<>(old);
        made.add(more);
        return made;
    }

    private static <T> List<T> withAt(List<T> old, int i, T other) {
        List<T> made = new ArrayList<>(old);
        made.set(i, other);
        return made;
    }

    // ---- a journey

    private static Ride pass(State st, List<Idea> ideas, List<Integer> heights, Ride r) {
        int s = r.stop;
        TreeSet<Integer> up = new TreeSet<>(r.up);
        TreeSet<Integer> scraped = new TreeSet<>(r.scraped);
        TreeSet<Integer> left = new TreeSet<>(r.left);
        up.removeIf(i -> ideas.get(i).off == s);
        for (int i = 0; i < ideas.size(); i++) {
            if (ideas.get(i).on != s) continue;
            int me = i;
            boolean calm = up.stream().noneMatch(o -> st.quarrels.contains(pair(o, me)));
            (up.size() < st.room && calm ? up : left).add(i);
        }
        if (heights.get(s) > 0) {
            for (int i : List.copyOf(up)) {
                if (ideas.get(i).tall(s) > heights.get(s)) {
                    up.remove(i);
                    scraped.add(i);
                }
            }
        }
        int levy = r.levy + up.stream().mapToInt(i -> ideas.get(i).sway(s)).sum();
        return new Ride(s + 1, up, scraped, left, levy);
    }

    private static Ride passUntil(State st, List<Idea> ideas, List<Integer> heights, Ride r, int stop) {
        Ride at = r;
        while (at.stop < stop) at = pass(st, ideas, heights, at);
        return at;
    }

    private Ride whole(List<Idea> ideas) { return passUntil(now, ideas, now.heights, START, 10); }

    private static int missing(Ride r) {
        TreeSet<Integer> all = new TreeSet<>(r.left);
        all.addAll(r.scraped);
        return all.size();
    }

    private State told(int room, List<Integer> heights, List<Idea> ideas, TreeSet<String> quarrels) {
        return new State(room, heights, ideas, quarrels, now.notes, now.ride, List.of());
    }

    private State moved(Ride ride) {
        List<Ride> past = with(now.past, now.ride);
        if (past.size() > 8) past = past.subList(past.size() - 8, past.size());
        return new State(now.room, now.heights, now.ideas, now.quarrels, now.notes, ride, List.copyOf(past));
    }

    // ---- a bus

    int bus(int room) {
        if (!in(room, 1, 7)) return bad();
        int were = now.ideas.size();
        now = fresh(room);
        return were;
    }

    int room(int room) {
        if (!in(room, 1, 7)) return bad();
        int was = now.room;
        now = told(room, now.heights, now.ideas, now.quarrels);
        return was;
    }

    int bridge(int s, int height) {
        if (!in(s, 0, 9) || !in(height, 0, 9)) return bad();
        int was = now.heights.get(s);
        now = told(now.room, withAt(now.heights, s, height), now.ideas, now.quarrels);
        return was;
    }

    int idea(int kind, int feet, int on, int off) {
        if (!in(kind, 0, 5) || !in(feet, 1, 9) || !in(on, 0, 8) || !in(off, 1, 9) || off <= on) return bad();
        if (now.ideas.size() == 7) return full();
        now = told(now.room, now.heights, with(now.ideas, new Idea(kind, feet, on, off)), now.quarrels);
        return now.ideas.size() - 1;
    }

    int quarrel(int a, int b, int is) {
        if (!isIdea(a) || !isIdea(b) || a == b || !in(is, 0, 1)) return bad();
        TreeSet<String> quarrels = new TreeSet<>(now.quarrels);
        boolean did = quarrels.remove(pair(a, b));
        if (is == 1) quarrels.add(pair(a, b));
        now = told(now.room, now.heights, now.ideas, quarrels);
        return did ? 1 : 0;
    }

    int type(int c) {
        if (!in(c, 0, 127)) return bad();
        if (text.length() == 150) return full();
        return text.append((char) c).length();
    }

    int clear() {
        int had = text.length();
        text.setLength(0);
        return had;
    }

    private record Token(int at, String sign) { }

    private static final Pattern TOKEN = Pattern.compile("[a-z]+|[0-9]+|[^ ]", Pattern.DOTALL);

    int read() {
        Deque<Token> tokens = new ArrayDeque<>();
        Matcher m = TOKEN.matcher(text);
        while (m.find()) tokens.add(new Token(m.start(), m.group()));
        State made = null;
        int items = 0;
        while (made == null || !tokens.isEmpty()) {
            Object[] result = item(made, tokens);
            if (result[0] == null) return -10 - (Integer) result[1];
            made = (State) result[0];
            items++;
        }
        now = made;
        return items;
    }

    /** The state with the next item, or null and the fault. */
    private Object[] item(State st, Deque<Token> tokens) {
        if (tokens.isEmpty()) return new Object[] {null, text.length()};
        Token word = tokens.poll();
        String expected = st == null ? "bus" : word.sign.matches("bridge|idea|quarrel") ? word.sign : "";
        boolean eighth = st != null && st.ideas.size() == 7 && word.sign.equals("idea");
        if (!word.sign.equals(expected) || eighth) return new Object[] {null, word.at};
        int many = Map.of("bus", 1, "bridge", 2, "idea", 4, "quarrel", 2).get(expected);
        List<Integer> numbers = new ArrayList<>();
        for (int n = 0; n < many; n++) {
            if (tokens.isEmpty()) return new Object[] {null, text.length()};
            Token t = tokens.poll();
            if (!t.sign.matches("[0-9]{1,2}")) return new Object[] {null, t.at};
            numbers.add(Integer.parseInt(t.sign));
            if (!fits(st, expected, numbers)) return new Object[] {null, t.at};
        }
        if (tokens.isEmpty()) return new Object[] {null, text.length()};
        Token mark = tokens.poll();
        if (!mark.sign.equals(";")) return new Object[] {null, mark.at};
        return new Object[] {after(st, expected, numbers), 0};
    }

    private static boolean fits(State st, String word, List<Integer> numbers) {
        int n = numbers.size() - 1;
        int v = numbers.get(n);
        switch (word) {
            case "bus": return in(v, 1, 7);
            case "bridge": return n == 0 ? in(v, 0, 9) : in(v, 1, 9);
            case "quarrel": return in(v, 0, st.ideas.size() - 1) && (n == 0 || numbers.get(0) != v);
            default:
                if (n == 0) return in(v, 0, 5);
                if (n == 1) return in(v, 1, 9);
                return n == 2 ? in(v, 0, 8) : in(v, 1, 9) && v > numbers.get(2);
        }
    }

    private static State after(State st, String word, List<Integer> v) {
        switch (word) {
            case "bus": return fresh(v.get(0));
            case "bridge": return new State(st.room, withAt(st.heights, v.get(0), v.get(1)), st.ideas, st.quarrels,
                st.notes, st.ride, st.past);
            case "quarrel":
                TreeSet<String> quarrels = new TreeSet<>(st.quarrels);
                quarrels.add(pair(v.get(0), v.get(1)));
                return new State(st.room, st.heights, st.ideas, quarrels, st.notes, st.ride, st.past);
            default: return new State(st.room, st.heights,
                with(st.ideas, new Idea(v.get(0), v.get(1), v.get(2), v.get(3))), st.quarrels, st.notes, st.ride, st.past);
        }
    }

    // ---- stops

    int drive(int n) {
        if (!in(n, 1, 10)) return bad();
        if (now.ride.stop + n > 10) return no();
        Ride ride = passUntil(now, now.ideas, now.heights, now.ride, now.ride.stop + n);
        int more = ride.levy - now.ride.levy;
        now = moved(ride);
        return more;
    }

    int puts(int i) {
        if (!isIdea(i)) return bad();
        Ride r = now.ride;
        if (!r.up.contains(i)) return no();
        TreeSet<Integer> up = new TreeSet<>(r.up);
        up.remove(i);
        now = moved(new Ride(r.stop, up, r.scraped, r.left, r.levy));
        return up.size();
    }

    int undo() {
        if (now.past.isEmpty()) return no();
        int last = now.past.size() - 1;
        now = new State(now.room, now.heights, now.ideas, now.quarrels, now.notes, now.past.get(last),
            now.past.subList(0, last));
        return now.ride.stop;
    }

    private int quarrelBits(int i) {
        TreeSet<Integer> with = new TreeSet<>();
        for (int o = 0; o < now.ideas.size(); o++) if (now.quarrels.contains(pair(o, i))) with.add(o);
        return bits(with);
    }

    int of(int i, int what) {
        if (!isIdea(i) || !in(what, 0, 5)) return bad();
        Idea idea = now.ideas.get(i);
        return new int[] {idea.kind, idea.feet, idea.on, idea.off, now.ride.up.contains(i) ? 1 : 0,
            quarrelBits(i)}[what];
    }

    int sways(int i, int s, int what) {
        if (!isIdea(i) || !in(s, 0, 9) || !in(what, 0, 1)) return bad();
        return what == 0 ? now.ideas.get(i).sway(s) : now.ideas.get(i).tall(s);
    }

    int now(int what) {
        if (!in(what, 0, 4)) return bad();
        Ride r = now.ride;
        return new int[] {r.stop, bits(r.up), bits(r.scraped), bits(r.left), r.levy}[what];
    }

    // ---- who rides

    int then(int s, int what) {
        if (!in(s, 0, 9) || s < now.ride.stop || !in(what, 0, 2)) return bad();
        Ride before = passUntil(now, now.ideas, now.heights, now.ride, s);
        Ride behind = pass(now, now.ideas, now.heights, before);
        return new int[] {bits(behind.up), behind.levy - before.levy, behind.levy}[what];
    }

    int end(int what) {
        if (!in(what, 0, 2)) return bad();
        Ride r = passUntil(now, now.ideas, now.heights, now.ride, 10);
        return new int[] {bits(r.scraped), bits(r.left), r.levy}[what];
    }

    int decks(int i) {
        if (i != -1 && !isIdea(i)) {
            bad();
            return -10;
        }
        int n = now.ideas.size();
        for (int many = 0; many <= n; many++) {
            int[] way = firstWay(n, many);
            if (way != null) return i == -1 ? many : way[i];
        }
        throw new IllegalStateException("a deck for each is always enough");
    }

    /** Counts through all ways in rising order. */
    private int[] firstWay(int n, int many) {
        int ways = (int) Math.pow(many, n);
        for (int w = 0; w < ways; w++) {
            int[] way = new int[n];
            int rest = w;
            for (int i = n - 1; i >= 0; i--) {
                way[i] = rest % many;
                rest /= many;
            }
            if (now.quarrels.stream().noneMatch(q -> way[q.charAt(0) - '0'] == way[q.charAt(2) - '0'])) return way;
        }
        return null;
    }

    int better() {
        TreeSet<Integer> best = new TreeSet<>();
        int fewest = missing(whole(now.ideas)) - 1;
        for (int i = 0; i < now.ideas.size(); i++) {
            Idea idea = now.ideas.get(i);
            for (int s = 0; s <= 8; s++) {
                if (s == idea.on || s >= idea.off) continue;
                int miss = missing(whole(withAt(now.ideas, i, idea.onAt(s))));
                if (miss < fewest) best.clear();
                if (miss <= fewest) {
                    fewest = miss;
                    best.add(10 * i + s);
                }
            }
        }
        return best.isEmpty() ? -1 : best.first();
    }

    int raise() {
        for (int by = 0; ; by++) {
            List<Integer> heights = new ArrayList<>();
            for (int h : now.heights) heights.add(h == 0 ? 0 : h + by);
            if (passUntil(now, now.ideas, heights, START, 10).scraped.isEmpty()) return by;
        }
    }

    int upstairs(int s, int x, int what) {
        if (!in(s, 0, 9) || !in(x, 0, 200) || !in(what, 0, 2)) return bad();
        List<TreeSet<Integer>> found = new ArrayList<>();
        for (int b = 0; b < 1 << now.ideas.size(); b++) {
            TreeSet<Integer> set = setOf(b);
            boolean calm = now.quarrels.stream()
                .noneMatch(q -> set.contains(q.charAt(0) - '0') && set.contains(q.charAt(2) - '0'));
            int sway = set.stream().mapToInt(i -> now.ideas.get(i).sway(s)).sum();
            if (calm && sway == x && set.size() <= now.room) found.add(set);
        }
        if (what == 0) return found.size();
        if (what == 1 && found.isEmpty()) return -1;
        TreeSet<Integer> result = new TreeSet<>();
        for (int i = 0; i < now.ideas.size(); i++) {
            int me = i;
            long in = found.stream().filter(f -> f.contains(me)).count();
            if (what == 1 ? in == found.size() : in > 0) result.add(i);
        }
        return bits(result);
    }

    // ---- what they are

    int note(int i, int s, int x, int t) {
        if (!isIdea(i) || !in(s, 0, 9) || !in(x, 0, 40) || !in(t, 0, 9)) return bad();
        if (now.notes.size() == 6) return full();
        now = new State(now.room, now.heights, now.ideas, now.quarrels, with(now.notes, new Note(i, s, x, t)),
            now.ride, now.past);
        return now.notes.size();
    }

    int forget() {
        int were = now.notes.size();
        now = new State(now.room, now.heights, now.ideas, now.quarrels, List.of(), now.ride, now.past);
        return were;
    }

    private TreeSet<Integer> kindsOf(int i) {
        TreeSet<Integer> kinds = setOf(63);
        for (Note n : now.notes) {
            if (n.i != i) continue;
            int feet = now.ideas.get(i).feet;
            kinds.removeIf(k -> KINDS.get(k).sway(feet, n.s) != n.x || KINDS.get(k).tall(n.s) != n.t);
        }
        return kinds;
    }

    int is(int i) { return isIdea(i) ? bits(kindsOf(i)) : bad(); }

    int look(int i) {
        if (!isIdea(i)) return bad();
        TreeSet<Integer> kinds = kindsOf(i);
        if (kinds.isEmpty()) return -1;
        int feet = now.ideas.get(i).feet;
        List<Integer> most = new ArrayList<>();
        for (int s = 0; s <= 9; s++) {
            Map<List<Integer>, Integer> groups = new HashMap<>();
            for (int k : kinds) groups.merge(List.of(KINDS.get(k).sway(feet, s), KINDS.get(k).tall(s)), 1, Integer::sum);
            most.add(Collections.max(groups.values()));
        }
        return most.indexOf(Collections.min(most));
    }

    private int becomes(BigInteger a, BigInteger b) {
        BigInteger g = a.gcd(b);
        above = a.divide(g);
        below = b.divide(g);
        return 1;
    }

    int fare(int n) {
        if (!in(n, 1, 60)) return bad();
        int levy = passUntil(now, now.ideas, now.heights, now.ride, 10).levy;
        return becomes(BigInteger.valueOf(levy), BigInteger.valueOf(n));
    }

    int two(int a, int b, int k) {
        if (!isIdea(a) || !isIdea(b) || a == b || k < -1) {
            bad();
            return -10;
        }
        int offA = now.ideas.get(a).off;
        int offB = now.ideas.get(b).off;
        int[][][] gains = new int[offA][offB][];
        for (int i = 0; i < offA; i++) {
            for (int j = 0; j < offB; j++) gains[i][j] = gainsOf(a, i, b, j);
        }
        List<Integer> resting = new ArrayList<>();
        for (int i = 0; i < offA; i++) {
            for (int j = 0; j < offB; j++) {
                int row = i;
                int column = j;
                boolean a_ = Arrays.stream(gains).allMatch(g -> g[column][0] <= gains[row][column][0]);
                boolean b_ = Arrays.stream(gains[i]).allMatch(g -> g[1] <= gains[row][column][1]);
                if (a_ && b_) resting.add(10 * i + j);
            }
        }
        if (k == -1) return resting.size();
        return k < resting.size() ? resting.get(k) : -5;
    }

    private int[] gainsOf(int a, int i, int b, int j) {
        List<Idea> ideas = withAt(withAt(now.ideas, a, now.ideas.get(a).onAt(i)), b, now.ideas.get(b).onAt(j));
        int[] gains = new int[2];
        Ride r = START;
        while (r.stop < 10) {
            r = pass(now, ideas, now.heights, r);
            if (r.up.contains(a)) gains[0]++;
            if (r.up.contains(b)) gains[1]++;
        }
        return gains;
    }

    int bell(int c) {
        if (!in(c, 0, 10)) return bad();
        int s = Math.min(now.ride.stop, 9);
        List<Integer> up = new ArrayList<>(now.ride.up);
        BigInteger sum = BigInteger.ZERO;
        for (int stay = 0; stay < 1 << up.size(); stay++) {
            BigInteger weight = BigInteger.ONE;
            int sway = 0;
            for (int n = 0; n < up.size(); n++) {
                boolean stays = (stay & 1 << n) != 0;
                weight = weight.multiply(BigInteger.valueOf(stays ? 10 - c : c));
                if (stays) sway += now.ideas.get(up.get(n)).sway(s);
            }
            sum = sum.add(weight.multiply(BigInteger.valueOf(sway)));
        }
        return becomes(sum, BigInteger.TEN.pow(up.size()));
    }

    int days(int seed, int n) {
        if (!in(seed, 0, 999999) || !in(n, 0, 60)) return bad();
        BigInteger x = BigInteger.valueOf(seed);
        int all = 0;
        for (int day = 0; day < n; day++) {
            List<Idea> ideas = new ArrayList<>();
            for (Idea idea : now.ideas) {
                x = x.multiply(BigInteger.valueOf(1103515245)).add(BigInteger.valueOf(12345));
                x = x.mod(BigInteger.TWO.pow(31));
                ideas.add(idea.onAt(x.shiftRight(16).mod(BigInteger.valueOf(idea.off)).intValue()));
            }
            all += whole(ideas).levy;
        }
        return all;
    }

    // ---- what there is

    long part(int what) {
        if (!in(what, 0, 1)) return bad();
        return (what == 0 ? above : below).longValueExact();
    }

    int image(int i) {
        if (!in(i, 0, 1)) return bad();
        images.put(i, now);
        return 1;
    }

    int from(int i) {
        if (!in(i, 0, 1)) return bad();
        if (!images.containsKey(i)) return no();
        now = images.get(i);
        return 1;
    }

    int status(int what) {
        if (in(what, 0, 2)) return refused[what];
        bad();
        return -1;
    }

    int count(int what) {
        if (!in(what, 0, 6)) return bad();
        int bridges = (int) now.heights.stream().filter(h -> h > 0).count();
        return new int[] {now.ideas.size(), now.room, now.quarrels.size(), bridges, now.notes.size(),
            now.past.size(), text.length()}[what];
    }

    long digest() {
        List<Long> values = new ArrayList<>();
        for (int what = 0; what <= 6; what++) values.add((long) count(what));
        for (int what = 0; what <= 4; what++) values.add((long) now(what));
        for (int h : now.heights) values.add((long) h);
        for (int i = 0; i < now.ideas.size(); i++) {
            for (int what : new int[] {0, 1, 2, 3, 5}) values.add((long) of(i, what));
        }
        for (Note n : now.notes) values.addAll(List.of((long) n.i, (long) n.s, (long) n.x, (long) n.t));
        values.add(part(0));
        values.add(part(1));
        long h = 1381;
        for (long v : values) h = 31 * h + v;
        return h;
    }
}
