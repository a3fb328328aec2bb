import java.lang.reflect.InvocationTargetException;
import java.lang.reflect.Method;
import java.util.ArrayList;
import java.util.List;
import java.util.Random;

/** Runs of calls drawn by a seed: the program answers as the model of the document does, and never throws. */
public final class ModelTest {
    private static final int RUNS = 1000;
    private static final int CALLS = 512;
    private static final int[] FAR = {Integer.MIN_VALUE, -100, -11, -10, -3, -2, -1, 0, 1, 6, 7, 8, 9, 10, 11, 40, 41, 60,
        61, 127, 128, 200, 201, 999999, 1000000, Integer.MAX_VALUE};

    private final Random random;
    private final IdeasDeck program = new IdeasDeck();
    private final DeckModel model = new DeckModel();
    private final List<String> called = new ArrayList<>();
    private final boolean wild;
    private boolean alike = true;
    private int made;

    private ModelTest(int seed) {
        random = new Random(seed);
        wild = seed % 5 == 0;
    }

    public static void main(String[] args) throws Exception {
        for (int seed = 1; seed <= RUNS; seed++) new ModelTest(seed).run(seed);
        Due.end();
    }

    private void run(int seed) throws Exception {
        // What calls behind the 512th answer is free: a turn has at most four calls and a digest, or a text.
        while (alike && made <= CALLS - 5) {
            int turn = random.nextInt(12);
            if (turn == 0) tellText();
            else if (turn <= 3) furnish();
            else if (turn <= 6) anyCall("drive", "puts", "undo", "drive", "then", "end", "bell", "image", "from");
            else anyCall(NAMES);
            if (alike) call("digest");
        }
        if (made > CALLS) throw new IllegalStateException("too many calls: " + made);
        if (!alike) System.out.println("seed " + seed + ": " + called);
    }

    private static final String[] NAMES = {"bus", "room", "bridge", "idea", "quarrel", "type", "clear", "read", "drive",
        "puts", "undo", "of", "sways", "now", "then", "end", "decks", "better", "raise", "upstairs", "note", "forget",
        "is", "look", "fare", "two", "bell", "days", "part", "image", "from", "status", "count", "digest", "upstairs",
        "two", "decks", "decks", "better", "raise", "two", "note", "is", "look", "days", "puts"};

    private void furnish() throws Exception {
        int on = random.nextInt(9);
        switch (random.nextInt(4)) {
            case 0: call("idea", random.nextInt(6), 1 + random.nextInt(9), on, on + 1 + random.nextInt(9 - on)); break;
            case 1: call("quarrel", random.nextInt(7), random.nextInt(7), random.nextInt(3) == 0 ? 0 : 1); break;
            case 2: call("bridge", random.nextInt(10), random.nextInt(7)); break;
            default: trueNote();
        }
    }

    /** A note that some kind of one of the ideas could have given. */
    private void trueNote() throws Exception {
        int i = random.nextInt(7);
        int s = random.nextInt(10);
        made += 3;
        int kind = program.of(i, 0);
        int sway = program.sways(i, s, 0);
        int tall = program.sways(i, s, 1);
        model.of(i, 0);
        model.sways(i, s, 0);
        model.sways(i, s, 1);
        if (kind >= 0) call("note", i, s, sway, tall);
    }

    private void anyCall(String... names) throws Exception {
        String name = names[random.nextInt(names.length)];
        if (name.equals("bus") && random.nextInt(4) != 0) return;
        Method m = methodOf(IdeasDeck.class, name);
        int[] args = new int[m.getParameterCount()];
        for (int n = 0; n < args.length; n++) args[n] = argument(name);
        call(name, args);
    }

    private int argument(String name) {
        if (wild && random.nextInt(3) == 0) return FAR[random.nextInt(FAR.length)];
        switch (name) {
            case "days": return random.nextInt(62);
            case "fare": return random.nextInt(61);
            case "type": return 30 + random.nextInt(98);
            case "drive": return random.nextInt(4);
            case "then": return random.nextInt(10) < 6 ? random.nextInt(3) : random.nextInt(10);
            case "upstairs": return random.nextInt(3) == 0 ? random.nextInt(3) : random.nextInt(14);
            case "decks": return random.nextInt(8) - 1;
            case "two": return random.nextInt(10) - 1;
            default: return random.nextInt(10) < 8 ? random.nextInt(6) : random.nextInt(12) - 1;
        }
    }

    private void tellText() throws Exception {
        StringBuilder text = new StringBuilder("bus " + (1 + random.nextInt(7)) + ";");
        int ideas = 0;
        while (random.nextInt(12) != 0 && text.length() < 125) {
            int on = random.nextInt(9);
            switch (random.nextInt(5)) {
                case 0: text.append("bridge ").append(random.nextInt(10)).append(' ').append(1 + random.nextInt(6)); break;
                case 1:
                    if (ideas < 2) continue;
                    text.append("quarrel ").append(random.nextInt(ideas)).append("  ").append(random.nextInt(ideas));
                    break;
                default:
                    text.append("idea ").append(random.nextInt(6)).append(' ').append(1 + random.nextInt(9)).append(' ')
                        .append(on).append(" 0").append(on + 1 + random.nextInt(9 - on));
                    ideas++;
            }
            text.append(random.nextInt(4) == 0 ? " ; " : ";");
        }
        spoil(text);
        if (made + text.length() > CALLS - 5) return;
        call("clear");
        for (int n = 0; n < text.length() && n < 150; n++) quietType(text.charAt(n));
        call("read");
    }

    /** Mostly one place is made wrong, or the end is cut off. */
    private void spoil(StringBuilder text) {
        int at = random.nextInt(text.length());
        String signs = "0123456789 ;;abusride-\n";
        switch (random.nextInt(6)) {
            case 0: text.setLength(at); break;
            case 1: text.setCharAt(at, signs.charAt(random.nextInt(signs.length()))); break;
            case 2: text.insert(at, signs.charAt(random.nextInt(signs.length()))); break;
            case 3: text.deleteCharAt(at); break;
            default: break;
        }
    }

    /** The bytes of a text are told as one in the run's list. */
    private void quietType(int c) {
        made++;
        int got = program.type(c);
        Due.is("type(" + c + ")", got, model.type(c));
        if (called.isEmpty() || !called.get(called.size() - 1).startsWith("type '")) called.add("type '");
        called.set(called.size() - 1, called.get(called.size() - 1) + (char) c);
    }

    private void call(String name, int... args) throws Exception {
        StringBuilder told = new StringBuilder(name).append('(');
        Object[] boxed = new Object[args.length];
        for (int n = 0; n < args.length; n++) {
            boxed[n] = args[n];
            told.append(n == 0 ? "" : ", ").append(args[n]);
        }
        told.append(')');
        called.add(told.toString());
        made++;
        try {
            long got = ((Number) methodOf(IdeasDeck.class, name).invoke(program, boxed)).longValue();
            long want = ((Number) methodOf(DeckModel.class, name).invoke(model, boxed)).longValue();
            Due.is(told.toString(), got, want);
            alike = got == want;
        } catch (InvocationTargetException e) {
            e.getCause().printStackTrace(System.out);
            Due.isTrue(told + " throws nothing", false);
            alike = false;
        }
    }

    private static final java.util.Map<String, Method> METHODS = new java.util.HashMap<>();

    private static Method methodOf(Class<?> of, String name) {
        return METHODS.computeIfAbsent(of.getName() + "." + name, key -> {
            for (Method m : of.getDeclaredMethods()) {
                if (m.getName().equals(name) && !java.lang.reflect.Modifier.isPrivate(m.getModifiers())) return m;
            }
            throw new IllegalStateException(key);
        });
    }
}
