import java.util.ArrayList;
import java.util.List;

/** Counts the answers that are not the ones that are due, and tells each of them. */
final class Due {
    private final String test;
    private int asked = 0;
    private int wrong = 0;

    Due(String test) {
        this.test = test;
    }

    void is(String call, long got, long want) {
        asked++;
        if (got != want) {
            wrong++;
            System.out.println(test + ": " + call + " answered " + got + ", due is " + want);
        }
    }

    void holds(String what, boolean so) {
        is(what, so ? 1 : 0, 1);
    }

    void end() {
        System.out.println(test + ": " + asked + " answers, " + wrong + " not as due");
        if (wrong != 0) {
            System.exit(1);
        }
    }

    /** A new object with these bushes and these looks. */
    static GorseGold gold(String bushes, String looks) {
        GorseGold x = new GorseGold();
        type(x, 0, bushes);
        type(x, 1, looks);
        return x;
    }

    static void type(GorseGold x, int text, String signs) {
        for (int i = 0; i < signs.length(); i++) {
            x.type(text, signs.charAt(i));
        }
    }

    /** Adds events, each told as its kind (f, g, r for frost, p), its month and its bush: "f:3:0 p:4:1". */
    static void events(GorseGold x, String told) {
        for (String event : told.isEmpty() ? new String[0] : told.split(" ")) {
            String[] parts = event.split(":");
            x.event("fgrp".indexOf(parts[0]), Integer.parseInt(parts[1]), Integer.parseInt(parts[2]));
        }
    }

    /** A new object with these bushes, looks and events. */
    static GorseGold gold(String bushes, String looks, String events) {
        GorseGold x = gold(bushes, looks);
        events(x, events);
        return x;
    }

    /** Told events, but for those of these numbers. */
    static String without(String told, int... lost) {
        List<String> left = new ArrayList<>(List.of(told.split(" ")));
        for (int i = lost.length - 1; i >= 0; i--) {
            left.remove(lost[i]);
        }
        return String.join(" ", left);
    }

    /** The bits of the months from one to another, both counted. */
    static int months(int from, int to) {
        int bits = 0;
        for (int m = from; m <= to; m++) {
            bits |= 1 << m;
        }
        return bits;
    }
}
