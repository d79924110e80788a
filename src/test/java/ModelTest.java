import java.util.Arrays;
import java.util.Random;

/**
 * All promises together: long runs of chosen calls, in which every answer of the class is set
 * beside that of Model. The runs come from fixed seeds, so a wrong answer can be found again.
 */
public final class ModelTest {
    private static final String[] CALLS = {"type", "wipe", "undo", "fault", "bush", "look", "set", "event", "back",
        "read", "at", "hill", "bare", "run", "fake", "last", "plant", "send", "save", "deal", "seen", "forget",
        "never", "was", "ask", "luck", "century", "sheet", "lose", "lay", "get", "copy", "write", "count", "digest"};
    private static final int[] EDGES = {-2, -1, 0, 1, 2, 3, 4, 5, 8, 9, 10, 11, 12, 16, 17, 23, 24, 50, 51, 60, 61,
        100, 101, 255, 256, Integer.MIN_VALUE, Integer.MAX_VALUE, Integer.MIN_VALUE + 1, Integer.MAX_VALUE - 1};

    private static final Due DUE = new Due("ModelTest");

    private final Random random;
    private final int seed;
    private final GorseGold x = new GorseGold();
    private final Model model = new Model();
    private int calls = 0;

    private ModelTest(int seed) {
        this.seed = seed;
        this.random = new Random(seed);
    }

    public static void main(String[] args) {
        for (int seed = 0; seed < 600; seed++) {
            ModelTest run = new ModelTest(seed);
            run.prepare();
            while (run.calls < 500) {
                run.call(run.random.nextInt(CALLS.length));
            }
            run.same("digest", 0, 0, 0, 0, 0);
        }
        DUE.end();
    }

    /** Most calls tell little on an empty hill, so most runs begin with bushes, looks and events. */
    private void prepare() {
        if (random.nextInt(8) == 0) {
            return;
        }
        String kinds = "ced";
        int bushes = random.nextInt(11);
        for (int i = 0; i < bushes; i++) {
            typeAll(0, (i == 0 ? "" : ";") + kinds.charAt(random.nextInt(3)) + (char) ('a' + random.nextInt(12))
                + (char) ('1' + random.nextInt(9)));
        }
        int looks = random.nextInt(13);
        for (int i = 0; i < looks; i++) {
            int bush = random.nextInt(6) == 0 ? random.nextInt(10) : random.nextInt(Math.max(1, bushes));
            typeAll(1, (i == 0 ? "" : ";") + (char) ('a' + random.nextInt(24)) + (char) ('0' + bush));
        }
        int events = random.nextInt(9);
        for (int i = 0; i < events; i++) {
            same("event", random.nextInt(4), random.nextInt(24), random.nextInt(10), 0, 0);
        }
        same("set", 0, random.nextInt(101), 0, 0, 0);
        same("set", 1, random.nextInt(51), 0, 0, 0);
        same("digest", 0, 0, 0, 0, 0);
    }

    private void typeAll(int text, String signs) {
        for (char c : signs.toCharArray()) {
            same("type", text, c, 0, 0, 0);
        }
    }

    private int number(int most) {
        return random.nextInt(12) == 0 ? EDGES[random.nextInt(EDGES.length)] : random.nextInt(most + 1);
    }

    private void call(int which) {
        String name = CALLS[which];
        int bushes = Math.max(0, model.count(0) - 1);
        switch (name) {
            case "type" -> typeSome();
            case "wipe" -> {
                if (random.nextInt(8) == 0) {
                    same(name, number(1), 0, 0, 0, 0);
                }
            }
            case "set" -> same(name, number(1), number(random.nextBoolean() ? 50 : 100), 0, 0, 0);
            case "event" -> same(name, number(3), number(23), number(random.nextBoolean() ? 9 : bushes), 0, 0);
            case "back" -> backSome();
            case "seen" -> seeSome(bushes);
            case "at" -> same(name, number(23), number(bushes), number(2), 0, 0);
            case "bush", "was", "ask" -> same(name, number(bushes), number(2), 0, 0, 0);
            case "look" -> same(name, number(11), number(1), 0, 0, 0);
            case "hill" -> same(name, number(23), number(2), 0, 0, 0);
            case "save" -> same(name, number(2) - 1, 0, 0, 0, 0);
            case "luck" -> same(name, number(16), number(23), number(1), 0, 0);
            case "century" -> same(name, random.nextInt(), number(8), number(1), 0, 0);
            case "sheet" -> same(name, number(3), number(2), number(random.nextBoolean() ? 60 : 9), 0, 0);
            case "lay" -> laySome();
            case "get" -> same(name, number(3), number(2), number(20), 0, 0);
            case "copy" -> same(name, number(3), number(9), number(3), number(9), number(9));
            case "count" -> same(name, number(8), 0, 0, 0, 0);
            case "digest" -> {
                if (random.nextInt(8) == 0) {
                    same(name, 0, 0, 0, 0, 0);
                }
            }
            default -> same(name, number(3), 0, 0, 0, 0);
        }
    }

    /** Mostly what may stand next, so that texts become well again. */
    private void typeSome() {
        if (random.nextInt(6) == 0) {
            same("type", number(1), number(255), 0, 0, 0);
            return;
        }
        int text = random.nextInt(2);
        String next = text == 0 ? "ced;al19" : "axbcd;09";
        same("type", text, next.charAt(random.nextInt(next.length())), 0, 0, 0);
        if (model.fault(text) != -1 && random.nextInt(3) > 0) {
            same("undo", text, 0, 0, 0, 0);
        }
    }

    /** A read may bring eight events at once, so several are undone at once too. */
    private void backSome() {
        int times = 1 + random.nextInt(4);
        for (int i = 0; i < times; i++) {
            same("back", 0, 0, 0, 0, 0);
        }
    }

    /** Mostly what is so, so that there are months, kinds and events that fit. */
    private void seeSome(int bushes) {
        int month = random.nextInt(24);
        int bush = random.nextInt(bushes + 1);
        int is = model.at(month, bush, 0);
        if (is >= 0 && random.nextInt(4) > 0) {
            same("seen", month, bush, is, 0, 0);
        } else {
            same("seen", number(23), number(9), number(4), 0, 0);
        }
    }

    /** Of its own form mostly, small numbers mostly, so that events can be read. */
    private void laySome() {
        int s = random.nextInt(4);
        for (int form = 0; form < 3; form++) {
            same("lay", s, form, number(8), random.nextInt(4) == 0 ? random.nextInt() : number(9), 0);
        }
    }

    private void same(String name, int a, int b, int c, int d, int e) {
        calls++;
        long want = ofModel(name, a, b, c, d, e);
        long got;
        try {
            got = ofClass(name, a, b, c, d, e);
        } catch (RuntimeException thrown) {
            System.out.println("seed " + seed + ": " + name + Arrays.toString(new int[] {a, b, c, d, e}) + " threw " + thrown);
            got = ~want;
        }
        DUE.is("seed " + seed + ", call " + calls + ": " + name + Arrays.toString(new int[] {a, b, c, d, e}), got, want);
    }

    private long ofClass(String name, int a, int b, int c, int d, int e) {
        return switch (name) {
            case "type" -> x.type(a, b);
            case "wipe" -> x.wipe(a);
            case "undo" -> x.undo(a);
            case "fault" -> x.fault(a);
            case "bush" -> x.bush(a, b);
            case "look" -> x.look(a, b);
            case "set" -> x.set(a, b);
            case "event" -> x.event(a, b, c);
            case "back" -> x.back();
            case "read" -> x.read(a);
            case "at" -> x.at(a, b, c);
            case "hill" -> x.hill(a, b);
            case "bare" -> x.bare();
            case "run" -> x.run();
            case "fake" -> x.fake();
            case "last" -> x.last(a);
            case "plant" -> x.plant(a);
            case "send" -> x.send(a);
            case "save" -> x.save(a);
            case "deal" -> x.deal(a);
            case "seen" -> x.seen(a, b, c);
            case "forget" -> x.forget();
            case "never" -> x.never();
            case "was" -> x.was(a, b);
            case "ask" -> x.ask(a);
            case "luck" -> x.luck(a, b, c);
            case "century" -> x.century(a, b, c);
            case "sheet" -> x.sheet(a, b, c);
            case "lose" -> x.lose(a);
            case "lay" -> x.lay(a, b, c, d);
            case "get" -> x.get(a, b, c);
            case "copy" -> x.copy(a, b, c, d, e);
            case "write" -> x.write(a);
            case "count" -> x.count(a);
            default -> x.digest();
        };
    }

    private long ofModel(String name, int a, int b, int c, int d, int e) {
        return switch (name) {
            case "type" -> model.type(a, b);
            case "wipe" -> model.wipe(a);
            case "undo" -> model.undo(a);
            case "fault" -> model.fault(a);
            case "bush" -> model.bush(a, b);
            case "look" -> model.look(a, b);
            case "set" -> model.set(a, b);
            case "event" -> model.event(a, b, c);
            case "back" -> model.back();
            case "read" -> model.read(a);
            case "at" -> model.at(a, b, c);
            case "hill" -> model.hill(a, b);
            case "bare" -> model.bare();
            case "run" -> model.run();
            case "fake" -> model.fake();
            case "last" -> model.last(a);
            case "plant" -> model.plant(a);
            case "send" -> model.send(a);
            case "save" -> model.save(a);
            case "deal" -> model.deal(a);
            case "seen" -> model.seen(a, b, c);
            case "forget" -> model.forget();
            case "never" -> model.never();
            case "was" -> model.was(a, b);
            case "ask" -> model.ask(a);
            case "luck" -> model.luck(a, b, c);
            case "century" -> model.century(a, b, c);
            case "sheet" -> model.sheet(a, b, c);
            case "lose" -> model.lose(a);
            case "lay" -> model.lay(a, b, c, d);
            case "get" -> model.get(a, b, c);
            case "copy" -> model.copy(a, b, c, d, e);
            case "write" -> model.write(a);
            case "count" -> model.count(a);
            default -> model.digest();
        };
    }
}
