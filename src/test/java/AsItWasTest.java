/** Calls that only ask change nothing, and calls that undo one another leave all as it was. */
public final class AsItWasTest {
    private static final Due DUE = new Due("AsItWasTest");

    interface Acts {
        void on(GorseGold x);
    }

    public static void main(String[] args) {
        askingChangesNothing();
        textsAsTheyWere();
        eventsAsTheyWere();
        restAsItWas();
        sheetsAsTheyWere();
        DUE.end();
    }

    private static void asItWas(String told, Acts acts) {
        GorseGold x = Boundaries.rich();
        acts.on(x);
        GorseGold twin = Boundaries.rich();
        DUE.is(told + ": count(8)", x.count(8), twin.count(8));
        DUE.holds(told + ": all is as it was", Portrait.of(x).equals(Portrait.of(twin)));
    }

    private static void askingChangesNothing() {
        asItWas("fault", x -> x.fault(0));
        asItWas("bush", x -> x.bush(1, 1));
        asItWas("look", x -> x.look(1, 1));
        asItWas("at", x -> x.at(7, 1, 0));
        asItWas("hill", x -> x.hill(7, 1));
        asItWas("bare", GorseGold::bare);
        asItWas("run", GorseGold::run);
        asItWas("fake", GorseGold::fake);
        asItWas("last", x -> x.last(0));
        asItWas("plant", x -> x.plant(0));
        asItWas("send", x -> x.send(0));
        asItWas("save", x -> x.save(0));
        asItWas("deal", x -> x.deal(0));
        asItWas("never", GorseGold::never);
        asItWas("was, BEGAN", x -> x.was(1, 0));
        asItWas("was, KIND", x -> x.was(1, 1));
        asItWas("ask", x -> x.ask(1));
        asItWas("luck", x -> x.luck(5, 7, 0));
        asItWas("century", x -> x.century(7, 8, 1));
        asItWas("get", x -> x.get(0, 0, 1));
        asItWas("count", x -> x.count(6));
        asItWas("digest", GorseGold::digest);
    }

    private static void textsAsTheyWere() {
        for (int text = 0; text < 2; text++) {
            int t = text;
            asItWas("type and undo " + t, x -> {
                x.type(t, ';');
                x.undo(t);
            });
            asItWas("type, wrong ones too, and undo " + t, x -> {
                Due.type(x, t, ";?c");
                x.undo(t);
                x.undo(t);
                x.undo(t);
            });
        }
        asItWas("wipe bushes and type them again", x -> {
            x.wipe(0);
            Due.type(x, 0, "ca3;eg2;dl9");
        });
        asItWas("wipe looks and type them again", x -> {
            x.wipe(1);
            Due.type(x, 1, "a0;h1;l2");
        });
        asItWas("other bushes in between", x -> {
            x.wipe(0);
            Due.type(x, 0, "dl1;dl1;dl1;dl1;dl1");
            x.digest();
            x.wipe(0);
            Due.type(x, 0, "ca3;eg2;dl9");
        });
    }

    private static void eventsAsTheyWere() {
        for (int kind = 0; kind < 4; kind++) {
            int k = kind;
            asItWas("event and back, kind " + k, x -> {
                x.event(k, 3, 1);
                x.back();
            });
        }
        asItWas("read and back", x -> {
            x.sheet(3, 0, 3);
            x.read(3);
            x.back();
            x.lose(3);
        });
        asItWas("all undone and told again", x -> {
            x.back();
            x.back();
            x.back();
            Due.events(x, "g:1:0 r:7:9 p:20:2");
        });
    }

    private static void restAsItWas() {
        asItWas("set FAITH and set it again", x -> x.set(0, x.set(0, 3)));
        asItWas("set DOUBT and set it again", x -> x.set(1, x.set(1, 3)));
        asItWas("forget and see again", x -> {
            x.forget();
            x.seen(1, 0, 3);
            x.seen(7, 1, 4);
        });
        asItWas("see one more, forget and see again", x -> {
            x.seen(0, 9, 4);
            x.forget();
            x.seen(1, 0, 3);
            x.seen(7, 1, 4);
        });
    }

    private static void sheetsAsTheyWere() {
        asItWas("sheet and lose", x -> {
            x.sheet(3, 2, 60);
            x.lose(3);
        });
        asItWas("lay what lies there", x -> x.lay(0, 0, 1, 7));
        asItWas("copy to where it is", x -> x.copy(0, 0, 0, 0, 4));
        asItWas("copy of none", x -> x.copy(0, 0, 0, 4, 0));
        asItWas("write to a sheet that is then lost", x -> {
            x.sheet(3, 0, 24);
            x.write(3);
            x.lose(3);
        });
        asItWas("lose and make again", x -> {
            x.lose(1);
            x.sheet(1, 1, 3);
            x.lay(1, 1, 1, 8);
        });
    }
}
