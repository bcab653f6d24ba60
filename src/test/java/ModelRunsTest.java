/** Long runs of calls, the same ones in every session, on the class and on the model beside it. */
public final class ModelRunsTest {
    private static final int RUNS = 400;
    private static final int CALLS = 512;
    private static final int[] ODD = {-1, 9, 10, 1000, 999, -10, Integer.MIN_VALUE, Integer.MAX_VALUE, 13, 21};
    private static final String SIGNS = "0123456789012345678923456789,,,,****a/:+-.~!";

    private long seed;
    private final NineDancers dance = new NineDancers();
    private final Model model = new Model();
    private final Checks checks;
    private final boolean quiet;
    private int calls = 0;

    /** In a quiet run odd arguments are rare, so that it goes far. */
    private ModelRunsTest(long seed, Checks checks) {
        this.seed = seed * 0x9E3779B97F4A7C15L + 1;
        this.checks = checks;
        this.quiet = seed % 4 != 0;
    }

    public static void main(String[] arguments) {
        Checks checks = new Checks("ModelRunsTest");
        for (int run = 0; run < RUNS && checks.failures() < 20; run++) {
            ModelRunsTest test = new ModelRunsTest(run, checks);
            while (test.calls < CALLS) {
                test.step("run " + run + ", call " + test.calls + ": ");
            }
        }
        checks.finish();
    }

    /** A generator written out, so that the runs are the same everywhere. */
    private int below(int bound) {
        seed = seed * 6364136223846793005L + 1442695040888963407L;
        return (int) ((seed >>> 33) % bound);
    }

    private boolean odd() {
        return below(quiet ? 60 : 6) == 0;
    }

    private int from(int least, int greatest) {
        return odd() ? ODD[below(ODD.length)] : least + below(greatest - least + 1);
    }

    private int someone() {
        return from(0, 8);
    }

    private int number() {
        return below(3) == 0 ? from(0, 999) : from(0, 8);
    }

    private void step(String where) {
        int kind = below(100);
        if (kind < 40) {
            change(where, kind);
        } else if (kind < 60) {
            text(where);
        } else {
            ask(where, kind);
        }
    }

    /** Each answer that is due is one call of the object. */
    private void due(String what, int got, int want) {
        calls++;
        checks.due(what, got, want);
    }

    private void change(String where, int kind) {
        int one = someone();
        int other = someone();
        if (kind < 14) {
            int number = number();
            due(where + "call " + number, dance.call(number), model.call(number));
        } else if (kind < 18) {
            int setting = from(0, 2);
            int value = from(-9, 9);
            due(where + "set " + setting + " " + value, dance.set(setting, value), model.set(setting, value));
        } else if (kind < 23) {
            int liking = from(-9, 9);
            due(where + "like " + one + " " + other + " " + liking,
                    dance.like(one, other, liking), model.like(one, other, liking));
        } else if (kind < 27) {
            boolean isAway = below(3) == 0;
            due(where + "away " + one + " " + isAway, dance.away(one, isAway), model.away(one, isAway));
        } else if (kind < 30) {
            int strength = from(0, 20);
            due(where + "feed " + one + " " + strength, dance.feed(one, strength), model.feed(one, strength));
        } else if (kind < 34) {
            due(where + "undo", dance.undo(), model.undo());
        } else if (kind < 37) {
            int slot = from(0, 1);
            due(where + "save " + slot, dance.save(slot), model.save(slot));
        } else {
            int slot = below(3) == 0 ? from(0, 1) : 2;
            due(where + "restore " + slot, dance.restore(slot), model.restore(slot));
        }
    }

    private void text(String where) {
        int kind = below(12);
        if (kind < 7) {
            long characters = kind == 0 && calls % 5 == 0 ? oddCharacters() : Texts.packed(someText());
            due(where + "put " + characters, dance.put(characters), model.put(characters));
        } else if (kind < 8) {
            due(where + "wipe", dance.wipe(), model.wipe());
        } else if (kind < 10) {
            due(where + "fault", dance.fault(), model.fault());
        } else {
            due(where + "read", dance.read(), model.read());
            if (below(3) == 0 && calls < CALLS) {
                due(where + "wipe then", dance.wipe(), model.wipe());
            }
        }
    }

    private long oddCharacters() {
        long characters = 0;
        for (int at = 0; at < 8; at++) {
            characters = characters << 8 | (below(4) == 0 ? below(256) : below(2) == 0 ? 0 : 48 + below(10));
        }
        return characters >>> 8 * below(9);
    }

    private String someText() {
        if (odd()) {
            StringBuilder text = new StringBuilder();
            int length = 1 + below(8);
            for (int at = 0; at < length; at++) {
                text.append(SIGNS.charAt(below(SIGNS.length())));
            }
            return text.toString();
        }
        String comma = model.count(11) == 0 ? "" : ",";
        String times = below(2) == 0 ? "" : 2 + below(8) + "*";
        return comma + times + (below(2) == 0 ? below(9) : below(1000));
    }

    private void ask(String where, int kind) {
        int one = someone();
        int other = someone();
        if (kind < 70) {
            int what = from(0, 7);
            due(where + "villager " + one + " " + what, dance.villager(one, what), model.villager(one, what));
        } else if (kind < 78) {
            int what = from(0, 4);
            due(where + "pair " + one + " " + other + " " + what,
                    dance.pair(one, other, what), model.pair(one, other, what));
        } else if (kind < 81) {
            int number = number();
            due(where + "partner " + one + " " + number, dance.partner(one, number), model.partner(one, number));
        } else if (kind < 88) {
            int what = from(0, 12);
            due(where + "count " + what, dance.count(what), model.count(what));
        } else if (kind < 93) {
            int number = number();
            int what = from(0, 3);
            due(where + "ifCalled " + number + " " + what, dance.ifCalled(number, what), model.ifCalled(number, what));
        } else if (kind < 95) {
            int what = from(0, 1);
            due(where + "bestCall " + what, dance.bestCall(what), model.bestCall(what));
        } else if (kind < 98) {
            int way = from(0, 1);
            due(where + "fewestRounds " + way, dance.fewestRounds(way), model.fewestRounds(way));
        } else {
            due(where + "untilAllMet", dance.untilAllMet(), model.untilAllMet());
        }
    }
}
