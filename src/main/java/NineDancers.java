import java.util.Arrays;

/** A dance of nine villagers whose partners change by the remainder of a told number. */
public final class NineDancers {
    public static final int NO_SUCH = -1000001;
    public static final int BAD_VALUE = -1000002;
    public static final int BAD_TEXT = -1000003;
    public static final int TOO_MANY = -1000004;
    public static final int NOT_POSSIBLE = -1000005;
    public static final int NONE = -1000006;

    public static final int TIRE = 0;
    public static final int REST = 1;
    public static final int BASE = 2;

    private static final int VILLAGERS = 9;
    private static final int ALL_VILLAGERS = (1 << VILLAGERS) - 1;
    private static final int SETTINGS = 3;
    private static final int GREATEST_SETTING = 9;
    private static final int GREATEST_LIKING = 9;
    private static final int FIRST_STRENGTH = 10;
    private static final int GREATEST_STRENGTH = 20;
    private static final int GREATEST_NUMBER = 999;
    private static final int MOST_ROUNDS = 9999;
    private static final int MOST_TRIED_ROUNDS = 500;
    private static final int LONGEST_PAD = 60;
    private static final int MOST_CHARACTERS_AT_ONCE = 8;
    private static final int MOST_CHANGES_KEPT = 6;
    private static final int SLOTS = 2;

    private static final int DANCING_PAIRS = 0;
    private static final int JOY_OF_ALL = 1;
    private static final int LEFT_ALONE = 2;
    private static final int FIRST_DANCES = 3;

    private final Ring ring = new Ring();
    private final Ring trial = new Ring();
    private final Pad pad = new Pad();
    private final History history = new History();
    private final Ring[] slots = new Ring[SLOTS];

    public NineDancers() {
    }

    // ---- changes

    public int set(int setting, int value) {
        if (setting < 0 || setting >= SETTINGS) {
            return BAD_VALUE;
        }
        int least = setting == BASE ? -GREATEST_SETTING : 0;
        if (value < least || value > GREATEST_SETTING) {
            return BAD_VALUE;
        }
        history.remember(ring);
        int previous = ring.settings[setting];
        ring.settings[setting] = value;
        return previous;
    }

    public int like(int one, int other, int liking) {
        if (!isVillager(one) || !isVillager(other)) {
            return NO_SUCH;
        }
        if (one == other || liking < -GREATEST_LIKING || liking > GREATEST_LIKING) {
            return BAD_VALUE;
        }
        history.remember(ring);
        int index = pairIndex(one, other);
        int previous = ring.likings[index];
        ring.likings[index] = liking;
        return previous;
    }

    public int away(int villager, boolean isAway) {
        if (!isVillager(villager)) {
            return NO_SUCH;
        }
        if (ring.isThere(villager) != isAway) {
            return NOT_POSSIBLE;
        }
        history.remember(ring);
        ring.there ^= 1 << villager;
        return Integer.bitCount(ring.there);
    }

    public int call(int number) {
        if (!isNumber(number)) {
            return BAD_VALUE;
        }
        if (ring.rounds >= MOST_ROUNDS) {
            return TOO_MANY;
        }
        history.remember(ring);
        return ring.danceRound(number);
    }

    public int read() {
        if (pad.firstFault() != NONE) {
            return BAD_TEXT;
        }
        if (ring.rounds + pad.roundsInAll() > MOST_ROUNDS) {
            return TOO_MANY;
        }
        history.remember(ring);
        int pairs = tellNumbersOfPad();
        pad.empty();
        return pairs;
    }

    public int feed(int villager, int strength) {
        if (!isVillager(villager)) {
            return NO_SUCH;
        }
        if (strength < 0 || strength > GREATEST_STRENGTH) {
            return BAD_VALUE;
        }
        history.remember(ring);
        int previous = ring.strengths[villager];
        ring.strengths[villager] = strength;
        return previous;
    }

    // ---- what there is; nothing changes

    public int villager(int villager, int what) {
        if (!isVillager(villager)) {
            return NO_SUCH;
        }
        switch (what) {
            case 0:
                return ring.isThere(villager) ? 1 : 0;
            case 1:
                return ring.strengths[villager];
            case 2:
                return ring.joys[villager];
            case 3:
                return ring.roundsDanced[villager];
            case 4:
                return ring.roundsRested[villager];
            case 5:
                return ring.roundsAlone[villager];
            case 6:
                return ring.dancedWith(villager);
            case 7:
                return ring.mostFrequentPartner(villager);
            default:
                return BAD_VALUE;
        }
    }

    public int pair(int one, int other, int what) {
        if (!isVillager(one) || !isVillager(other)) {
            return NO_SUCH;
        }
        if (one == other) {
            return BAD_VALUE;
        }
        int index = pairIndex(one, other);
        int remainder = remainderOf(one + other);
        switch (what) {
            case 0:
                return ring.likings[index];
            case 1:
                return ring.dances[index];
            case 2:
                return remainder;
            case 3:
                return ring.timesTold[remainder];
            case 4:
                return ring.lastDances[index];
            default:
                return BAD_VALUE;
        }
    }

    public int partner(int villager, int number) {
        if (!isVillager(villager)) {
            return NO_SUCH;
        }
        if (!isNumber(number)) {
            return BAD_VALUE;
        }
        int other = counterpart(villager, number);
        return other == villager ? NONE : other;
    }

    public int count(int what) {
        switch (what) {
            case TIRE:
            case REST:
            case BASE:
                return ring.settings[what];
            case 3:
                return ring.rounds;
            case 4:
                return ring.there;
            case 5:
                return sumOf(ring.dances);
            case 6:
                return sumOf(ring.joys);
            case 7:
                return ring.unmetPairs();
            case 8:
                return sumOf(ring.roundsAlone);
            case 9:
                return sumOf(ring.strengths);
            case 10:
                return ring.lastNumber;
            case 11:
                return pad.length;
            case 12:
                return history.length;
            default:
                return BAD_VALUE;
        }
    }

    // ---- what if; nothing changes

    public int ifCalled(int number, int what) {
        if (!isNumber(number) || what < DANCING_PAIRS || what > FIRST_DANCES) {
            return BAD_VALUE;
        }
        return ring.wouldBring(number, what);
    }

    public int bestCall(int what) {
        if (what != 0 && what != 1) {
            return BAD_VALUE;
        }
        int best = 0;
        int mostJoy = ring.wouldBring(0, JOY_OF_ALL);
        for (int remainder = 1; remainder < VILLAGERS; remainder++) {
            int joy = ring.wouldBring(remainder, JOY_OF_ALL);
            if (joy > mostJoy) {
                best = remainder;
                mostJoy = joy;
            }
        }
        return what == 0 ? best : mostJoy;
    }

    public int fewestRounds(int way) {
        switch (way) {
            case 0:
                return ring.remaindersWithUnmetPair();
            case 1:
                return ring.roundsByTrying();
            default:
                return BAD_VALUE;
        }
    }

    public int untilAllMet() {
        trial.copyFrom(ring);
        int unmet = trial.unmetPairs();
        for (int round = 0; round < MOST_TRIED_ROUNDS && unmet > 0; round++) {
            int number = remainderOf(round);
            unmet -= trial.wouldBring(number, FIRST_DANCES);
            trial.danceRound(number);
        }
        return unmet > 0 ? NONE : trial.rounds - ring.rounds;
    }

    // ---- texts

    public int put(long characters) {
        int given = charactersIn(characters);
        if (given == 0) {
            return BAD_VALUE;
        }
        if (pad.length + given > LONGEST_PAD) {
            return TOO_MANY;
        }
        pad.append(characters, given);
        return pad.length;
    }

    public int wipe() {
        return pad.empty();
    }

    public int fault() {
        return pad.firstFault();
    }

    // ---- undo, saving

    public int undo() {
        if (history.length == 0) {
            return NOT_POSSIBLE;
        }
        history.takeBackInto(ring);
        return history.length;
    }

    public int save(int slot) {
        if (!isSlot(slot)) {
            return BAD_VALUE;
        }
        Ring saved = slots[slot];
        if (saved == null) {
            saved = new Ring();
            slots[slot] = saved;
        }
        saved.copyFrom(ring);
        return ring.rounds;
    }

    public int restore(int slot) {
        if (!isSlot(slot)) {
            return BAD_VALUE;
        }
        Ring saved = slots[slot];
        if (saved == null) {
            return NOT_POSSIBLE;
        }
        history.remember(ring);
        ring.copyFrom(saved);
        return ring.rounds;
    }

    private static boolean isVillager(int villager) {
        return villager >= 0 && villager < VILLAGERS;
    }

    private static boolean isNumber(int number) {
        return number >= 0 && number <= GREATEST_NUMBER;
    }

    private static boolean isSlot(int slot) {
        return slot >= 0 && slot < SLOTS;
    }

    /** Both orders of a pair have the same index. */
    private static int pairIndex(int one, int other) {
        return one < other ? one * VILLAGERS + other : other * VILLAGERS + one;
    }

    /** The villager that a number gives a villager: itself, if it sits. */
    private static int counterpart(int villager, int number) {
        return remainderOf(number - villager);
    }

    private static int remainderOf(int number) {
        return Math.floorMod(number, VILLAGERS);
    }

    private static int sumOf(int[] row) {
        int sum = 0;
        for (int value : row) {
            sum += value;
        }
        return sum;
    }

    /** How many characters a number gives, 0 if they are not given as they should be. */
    private static int charactersIn(long characters) {
        long rest = characters;
        int given = 0;
        while (rest != 0 && given < MOST_CHARACTERS_AT_ONCE) {
            long code = rest & 255;
            if (code < 33 || code > 126) {
                return 0;
            }
            rest >>>= 8;
            given++;
        }
        return given;
    }

    private int tellNumbersOfPad() {
        int pairs = 0;
        for (int at = 0; at < pad.length; at++) {
            if (pad.startsCall(at)) {
                pairs += tell(pad.numberAt(at), pad.timesAt(at));
            }
        }
        return pairs;
    }

    private int tell(int number, int times) {
        int pairs = 0;
        for (int time = 0; time < times; time++) {
            pairs += ring.danceRound(number);
        }
        return pairs;
    }

    /** All that undo and the slots bring back: the villagers, their pairs, the settings, the rounds. */
    private static final class Ring {
        final int[] settings = new int[SETTINGS];
        int there = ALL_VILLAGERS;

        final int[] strengths = new int[VILLAGERS];
        final int[] joys = new int[VILLAGERS];
        final int[] roundsDanced = new int[VILLAGERS];
        final int[] roundsRested = new int[VILLAGERS];
        final int[] roundsAlone = new int[VILLAGERS];

        final int[] likings = new int[VILLAGERS * VILLAGERS];
        final int[] dances = new int[VILLAGERS * VILLAGERS];
        final int[] lastDances = new int[VILLAGERS * VILLAGERS];

        final int[] timesTold = new int[VILLAGERS];
        int rounds = 0;
        int lastNumber = NONE;

        Ring() {
            settings[TIRE] = 2;
            settings[REST] = 3;
            settings[BASE] = 2;
            Arrays.fill(strengths, FIRST_STRENGTH);
            Arrays.fill(lastDances, NONE);
        }

        void copyFrom(Ring from) {
            copyRow(from.settings, settings);
            there = from.there;
            copyRow(from.strengths, strengths);
            copyRow(from.joys, joys);
            copyRow(from.roundsDanced, roundsDanced);
            copyRow(from.roundsRested, roundsRested);
            copyRow(from.roundsAlone, roundsAlone);
            copyRow(from.likings, likings);
            copyRow(from.dances, dances);
            copyRow(from.lastDances, lastDances);
            copyRow(from.timesTold, timesTold);
            rounds = from.rounds;
            lastNumber = from.lastNumber;
        }

        private static void copyRow(int[] from, int[] to) {
            System.arraycopy(from, 0, to, 0, Math.min(from.length, to.length));
        }

        boolean isThere(int villager) {
            return (there & (1 << villager)) != 0;
        }

        /** Dances a round and returns how many pairs dance in it. */
        int danceRound(int number) {
            int pairs = 0;
            for (int one = 0; one < VILLAGERS; one++) {
                int other = counterpart(one, number);
                if (one == other) {
                    rest(one);
                } else if (one < other && wouldDance(one, other)) {
                    dance(one, other);
                    pairs++;
                } else if (one < other) {
                    leaveAlone(one);
                    leaveAlone(other);
                }
            }
            timesTold[remainderOf(number)]++;
            lastNumber = number;
            rounds++;
            return pairs;
        }

        private boolean wouldDance(int one, int other) {
            return isThere(one) && isThere(other)
                    && strengths[one] >= settings[TIRE] && strengths[other] >= settings[TIRE];
        }

        private void dance(int one, int other) {
            int joy = joyOfEach(one, other);
            takePart(one, joy);
            takePart(other, joy);
            int index = pairIndex(one, other);
            dances[index]++;
            lastDances[index] = rounds;
        }

        private int joyOfEach(int one, int other) {
            return settings[BASE] + likings[pairIndex(one, other)];
        }

        private void takePart(int villager, int joy) {
            joys[villager] += joy;
            strengths[villager] -= settings[TIRE];
            roundsDanced[villager]++;
        }

        private void leaveAlone(int villager) {
            if (isThere(villager)) {
                roundsAlone[villager]++;
                rest(villager);
            }
        }

        private void rest(int villager) {
            if (isThere(villager)) {
                roundsRested[villager]++;
                strengths[villager] = Math.min(strengths[villager] + settings[REST], GREATEST_STRENGTH);
            }
        }

        int dancedWith(int villager) {
            int partners = 0;
            for (int other = 0; other < VILLAGERS; other++) {
                if (dances[pairIndex(villager, other)] > 0) {
                    partners |= 1 << other;
                }
            }
            return partners;
        }

        int mostFrequentPartner(int villager) {
            int partner = NONE;
            int most = 0;
            for (int other = 0; other < VILLAGERS; other++) {
                int times = dances[pairIndex(villager, other)];
                if (times > most) {
                    partner = other;
                    most = times;
                }
            }
            return partner;
        }

        private boolean isUnmet(int one, int other) {
            return isThere(one) && isThere(other) && dances[pairIndex(one, other)] == 0;
        }

        int unmetPairs() {
            int unmet = 0;
            for (int one = 0; one < VILLAGERS; one++) {
                for (int other = one + 1; other < VILLAGERS; other++) {
                    if (isUnmet(one, other)) {
                        unmet++;
                    }
                }
            }
            return unmet;
        }

        int remaindersWithUnmetPair() {
            int remainders = 0;
            for (int remainder = 0; remainder < VILLAGERS; remainder++) {
                if (hasUnmetPair(remainder)) {
                    remainders++;
                }
            }
            return remainders;
        }

        private boolean hasUnmetPair(int remainder) {
            for (int one = 0; one < VILLAGERS; one++) {
                int other = counterpart(one, remainder);
                if (one < other && isUnmet(one, other)) {
                    return true;
                }
            }
            return false;
        }

        /** One pass is enough: a told remainder leaves no unmet pair of its own, so the first one is further on. */
        int roundsByTrying() {
            int told = 0;
            for (int one = 0; one < VILLAGERS; one++) {
                for (int other = one + 1; other < VILLAGERS; other++) {
                    if (isUnmet(one, other)) {
                        told |= 1 << remainderOf(one + other);
                    }
                }
            }
            return Integer.bitCount(told);
        }

        /** What a round would bring, told as ifCalled tells it. */
        int wouldBring(int number, int what) {
            int sum = 0;
            for (int one = 0; one < VILLAGERS; one++) {
                int other = counterpart(one, number);
                if (one < other) {
                    sum += pairWouldBring(one, other, what);
                }
            }
            return sum;
        }

        private int pairWouldBring(int one, int other, int what) {
            boolean dancing = wouldDance(one, other);
            if (what == LEFT_ALONE) {
                return dancing ? 0 : Integer.bitCount(there & ((1 << one) | (1 << other)));
            }
            if (!dancing) {
                return 0;
            }
            if (what == JOY_OF_ALL) {
                return 2 * joyOfEach(one, other);
            }
            if (what == FIRST_DANCES) {
                return dances[pairIndex(one, other)] == 0 ? 1 : 0;
            }
            return 1;
        }
    }

    /** The states before the latest changes, the oldest one first. */
    private static final class History {
        private final Ring[] states = new Ring[MOST_CHANGES_KEPT];
        int length = 0;

        History() {
            for (int at = 0; at < MOST_CHANGES_KEPT; at++) {
                states[at] = new Ring();
            }
        }

        void remember(Ring ring) {
            if (length == MOST_CHANGES_KEPT) {
                dropOldest();
            }
            states[length].copyFrom(ring);
            length++;
        }

        /** The dropped state's rows go to the end, to be used again. */
        private void dropOldest() {
            Ring oldest = states[0];
            for (int at = 1; at < MOST_CHANGES_KEPT; at++) {
                states[at - 1] = states[at];
            }
            states[MOST_CHANGES_KEPT - 1] = oldest;
            length--;
        }

        void takeBackInto(Ring ring) {
            if (length > 0) {
                length--;
                ring.copyFrom(states[length]);
            }
        }
    }

    /** The text from which numbers are read. */
    private static final class Pad {
        private final char[] text = new char[LONGEST_PAD];
        int length = 0;

        /** The lowest 8 bits are the last character. */
        void append(long characters, int given) {
            for (int at = length + given - 1; at >= length; at--) {
                text[at] = (char) ((characters >>> (8 * (length + given - 1 - at))) & 255);
            }
            length += given;
        }

        /** Returns the length that it had. */
        int empty() {
            int previous = length;
            length = 0;
            return previous;
        }

        int firstFault() {
            int number = 0;
            int digits = 0;
            boolean afterTimes = false;
            for (int at = 0; at < length; at++) {
                char sign = text[at];
                if (isDigit(sign) && canTakeDigit(number, digits)) {
                    number = 10 * number + (sign - '0');
                    digits++;
                } else if (sign == '*' && !afterTimes && digits == 1 && number >= 2) {
                    number = 0;
                    digits = 0;
                    afterTimes = true;
                } else if (sign == ',' && digits > 0) {
                    number = 0;
                    digits = 0;
                    afterTimes = false;
                } else {
                    return at;
                }
            }
            return digits > 0 ? NONE : length;
        }

        private static boolean isDigit(char sign) {
            return sign >= '0' && sign <= '9';
        }

        /** Neither behind a leading zero nor behind three digits is there a place for one more. */
        private static boolean canTakeDigit(int number, int digits) {
            return digits == 0 || (number > 0 && digits < 3);
        }

        int roundsInAll() {
            int sum = 0;
            for (int at = 0; at < length; at++) {
                if (startsCall(at)) {
                    sum += timesAt(at);
                }
            }
            return sum;
        }

        boolean startsCall(int at) {
            return at == 0 || text[at - 1] == ',';
        }

        private boolean hasTimes(int at) {
            return at + 1 < length && text[at + 1] == '*';
        }

        int timesAt(int at) {
            return hasTimes(at) ? text[at] - '0' : 1;
        }

        int numberAt(int at) {
            int number = 0;
            int start = hasTimes(at) ? at + 2 : at;
            for (int digit = start; digit < length && isDigit(text[digit]); digit++) {
                number = 10 * number + (text[digit] - '0');
            }
            return number;
        }
    }
}
