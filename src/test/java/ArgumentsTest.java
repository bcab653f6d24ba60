import java.util.function.ToIntFunction;

/**
 * The least and the greatest value of every argument, and the first ones beyond them, each with each other, so that the
 * errors come in their order; what is refused changes nothing, in each of the states.
 */
public final class ArgumentsTest {
    private static final int LEAST = Integer.MIN_VALUE;
    private static final int GREATEST = Integer.MAX_VALUE;
    private static final int TAKEN = 1;
    private static final int[] VILLAGERS = {LEAST, -1, 0, 8, 9, GREATEST};
    private static final int[] NUMBERS = {LEAST, -1, 0, 999, 1000, GREATEST};

    private final Checks checks;
    private final States.State state;
    private final String whole;

    private ArgumentsTest(Checks checks, States.State state) {
        this.checks = checks;
        this.state = state;
        this.whole = Seen.whole(state.maker());
    }

    public static void main(String[] arguments) {
        Checks checks = new Checks("ArgumentsTest");
        for (States.State state : States.ALL) {
            ArgumentsTest test = new ArgumentsTest(checks, state);
            test.changes();
            test.changesOfVillagers();
            test.questions();
            test.questionsOfVillagers();
            test.texts();
            test.slots();
            test.questionsChangeNothing();
        }
        checks.finish();
    }

    private static boolean within(int value, int least, int greatest) {
        return value >= least && value <= greatest;
    }

    private static boolean nobody(int villager) {
        return !within(villager, 0, 8);
    }

    /** An error is due just so, and changes nothing; of a call that is taken, the answer is looked at elsewhere. */
    private void judge(String what, ToIntFunction<NineDancers> call, int want, boolean isChange) {
        String where = what + " when " + state.name();
        NineDancers dance = state.maker().get();
        int history = dance.count(12);
        int answer = call.applyAsInt(dance);
        if (want == TAKEN) {
            checks.holds(where + " is taken", answer == NineDancers.NONE || answer > NineDancers.NO_SUCH);
            checks.due(where + ", history", dance.count(12), isChange ? Math.min(history + 1, 6) : history);
        } else {
            checks.due(where, answer, want);
            checks.same(where + ", all then", Seen.whole(() -> after(call)), whole);
        }
    }

    private NineDancers after(ToIntFunction<NineDancers> call) {
        NineDancers dance = state.maker().get();
        call.applyAsInt(dance);
        return dance;
    }

    private void changes() {
        for (int setting : new int[] {LEAST, -1, 0, 1, 2, 3, GREATEST}) {
            for (int value : new int[] {LEAST, -10, -9, -1, 0, 9, 10, GREATEST}) {
                boolean good = within(setting, 0, 2) && within(value, setting == 2 ? -9 : 0, 9);
                judge("2: set(" + setting + ", " + value + ")", dance -> dance.set(setting, value),
                        good ? TAKEN : NineDancers.BAD_VALUE, true);
            }
        }
        for (int number : NUMBERS) {
            judge("5: call(" + number + ")", dance -> dance.call(number),
                    within(number, 0, 999) ? TAKEN : NineDancers.BAD_VALUE, true);
        }
        judge("6: read()", NineDancers::read, state.faulty() ? NineDancers.BAD_TEXT : TAKEN, true);
    }

    private void changesOfVillagers() {
        for (int one : VILLAGERS) {
            for (int other : VILLAGERS) {
                for (int liking : new int[] {LEAST, -10, -9, 9, 10, GREATEST}) {
                    judge("3: like(" + one + ", " + other + ", " + liking + ")",
                            dance -> dance.like(one, other, liking), dueOfPair(one, other, liking, -9, 9), true);
                }
            }
            for (int strength : new int[] {LEAST, -1, 0, 20, 21, GREATEST}) {
                judge("7: feed(" + one + ", " + strength + ")", dance -> dance.feed(one, strength),
                        dueOf(one, strength, 0, 20), true);
            }
        }
        for (int one = -1; one <= 9; one++) {
            away(one, true);
            away(one, false);
        }
        away(LEAST, true);
        away(GREATEST, false);
    }

    private void away(int one, boolean isAway) {
        boolean soAlready = !nobody(one) && (state.awaySet() >> one & 1) == (isAway ? 1 : 0);
        judge("4: away(" + one + ", " + isAway + ")", dance -> dance.away(one, isAway),
                nobody(one) ? NineDancers.NO_SUCH : soAlready ? NineDancers.NOT_POSSIBLE : TAKEN, true);
    }

    private static int dueOf(int villager, int value, int least, int greatest) {
        if (nobody(villager)) {
            return NineDancers.NO_SUCH;
        }
        return within(value, least, greatest) ? TAKEN : NineDancers.BAD_VALUE;
    }

    private static int dueOfPair(int one, int other, int value, int least, int greatest) {
        if (nobody(one) || nobody(other)) {
            return NineDancers.NO_SUCH;
        }
        return one != other && within(value, least, greatest) ? TAKEN : NineDancers.BAD_VALUE;
    }

    private void questions() {
        for (int what : new int[] {LEAST, -1, 0, 12, 13, GREATEST}) {
            judge("11: count(" + what + ")", dance -> dance.count(what),
                    within(what, 0, 12) ? TAKEN : NineDancers.BAD_VALUE, false);
        }
        for (int number : NUMBERS) {
            for (int what : new int[] {LEAST, -1, 0, 3, 4, GREATEST}) {
                boolean good = within(number, 0, 999) && within(what, 0, 3);
                judge("12: ifCalled(" + number + ", " + what + ")", dance -> dance.ifCalled(number, what),
                        good ? TAKEN : NineDancers.BAD_VALUE, false);
            }
        }
        for (int choice : new int[] {LEAST, -1, 0, 1, 2, GREATEST}) {
            int want = within(choice, 0, 1) ? TAKEN : NineDancers.BAD_VALUE;
            judge("13: bestCall(" + choice + ")", dance -> dance.bestCall(choice), want, false);
            judge("14: fewestRounds(" + choice + ")", dance -> dance.fewestRounds(choice), want, false);
        }
    }

    private void questionsOfVillagers() {
        for (int one : VILLAGERS) {
            for (int what : new int[] {LEAST, -1, 0, 7, 8, GREATEST}) {
                judge("8: villager(" + one + ", " + what + ")", dance -> dance.villager(one, what),
                        dueOf(one, what, 0, 7), false);
            }
            for (int number : NUMBERS) {
                judge("10: partner(" + one + ", " + number + ")", dance -> dance.partner(one, number),
                        dueOf(one, number, 0, 999), false);
            }
            for (int other : VILLAGERS) {
                for (int what : new int[] {LEAST, -1, 0, 4, 5, GREATEST}) {
                    judge("9: pair(" + one + ", " + other + ", " + what + ")",
                            dance -> dance.pair(one, other, what), dueOfPair(one, other, what, 0, 4), false);
                }
            }
        }
    }

    /** One character that is bad at each place of one to eight; the code 0 is bad only below another one. */
    private void texts() {
        for (int length = 1; length <= 8; length++) {
            long good = Texts.packed("!~12,*34".substring(0, length));
            putDue(good, length <= state.room() ? TAKEN : NineDancers.TOO_MANY);
            for (int at = 0; at < length; at++) {
                for (long code : new long[] {1, 32, 127, 128, 255}) {
                    putDue(good & ~(255L << 8 * at) | code << 8 * at, NineDancers.BAD_VALUE);
                }
                if (at < length - 1) {
                    putDue(good & ~(255L << 8 * at), NineDancers.BAD_VALUE);
                }
            }
        }
        for (long none : new long[] {0, Long.MIN_VALUE, Long.MAX_VALUE, -1, 1L << 56, 256, 1L << 32 | '1'}) {
            putDue(none, NineDancers.BAD_VALUE);
        }
        for (int given = 1; given <= 8; given++) {
            putDue(Texts.packed("7".repeat(given)), given <= state.room() ? TAKEN : NineDancers.TOO_MANY);
        }
    }

    private void putDue(long characters, int want) {
        judge("16: put(" + Long.toHexString(characters) + ")", dance -> dance.put(characters), want, false);
    }

    private void slots() {
        for (int slot : new int[] {LEAST, -1, 0, 1, 2, GREATEST}) {
            boolean good = within(slot, 0, 1);
            judge("20: save(" + slot + ")", dance -> dance.save(slot), good ? TAKEN : NineDancers.BAD_VALUE, false);
            judge("21: restore(" + slot + ")", dance -> dance.restore(slot),
                    !good ? NineDancers.BAD_VALUE : state.saved() ? TAKEN : NineDancers.NOT_POSSIBLE, true);
        }
        if (state.maker().get().count(12) == 0) {
            judge("19: undo()", NineDancers::undo, NineDancers.NOT_POSSIBLE, false);
        }
    }

    private void questionsChangeNothing() {
        unchanged("8: villager", dance -> askVillagers(dance));
        unchanged("9: pair", dance -> askPairs(dance));
        unchanged("10: partner", dance -> dance.partner(0, 5) + dance.partner(5, 999));
        unchanged("11: count", dance -> askCounts(dance));
        unchanged("12: ifCalled", dance -> askRounds(dance));
        unchanged("13: bestCall", dance -> dance.bestCall(0) + dance.bestCall(1));
        unchanged("14: fewestRounds", dance -> dance.fewestRounds(0) + dance.fewestRounds(1));
        unchanged("15: untilAllMet", NineDancers::untilAllMet);
        unchanged("18: fault", NineDancers::fault);
    }

    private void unchanged(String what, ToIntFunction<NineDancers> call) {
        checks.same(what + " changes nothing when " + state.name(), Seen.whole(() -> after(call)), whole);
    }

    private static int askVillagers(NineDancers dance) {
        int sum = 0;
        for (int what = 0; what <= 7; what++) {
            sum += dance.villager(0, what) + dance.villager(8, what);
        }
        return sum;
    }

    private static int askPairs(NineDancers dance) {
        int sum = 0;
        for (int what = 0; what <= 4; what++) {
            sum += dance.pair(0, 8, what) + dance.pair(4, 3, what);
        }
        return sum;
    }

    private static int askCounts(NineDancers dance) {
        int sum = 0;
        for (int what = 0; what <= 12; what++) {
            sum += dance.count(what);
        }
        return sum;
    }

    private static int askRounds(NineDancers dance) {
        int sum = 0;
        for (int what = 0; what <= 3; what++) {
            sum += dance.ifCalled(0, what) + dance.ifCalled(999, what) + dance.ifCalled(4, what);
        }
        return sum;
    }
}
