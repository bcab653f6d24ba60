import java.util.ArrayDeque;
import java.util.ArrayList;
import java.util.Deque;
import java.util.List;
import java.util.regex.Matcher;
import java.util.regex.Pattern;

/**
 * The document said a second time, and otherwise: every round is kept as a list of what befell whom, and each
 * question is answered by counting in it. Slow, and used only to compare answers.
 */
final class Model {
    private static final int NO_SUCH = -1000001;
    private static final int BAD_VALUE = -1000002;
    private static final int BAD_TEXT = -1000003;
    private static final int TOO_MANY = -1000004;
    private static final int NOT_POSSIBLE = -1000005;
    private static final int NONE = -1000006;
    private static final Pattern TEXT = Pattern.compile(
            "([2-9]\\*)?(0|[1-9][0-9]?[0-9]?)(,([2-9]\\*)?(0|[1-9][0-9]?[0-9]?))*");

    private record Dance(int one, int other, int joyOfEach) {
        boolean isOf(int a, int b) {
            return one == a && other == b || one == b && other == a;
        }

        boolean has(int villager) {
            return one == villager || other == villager;
        }
    }

    private record Round(int number, List<Dance> dances, List<Integer> resting, List<Integer> alone) {
    }

    private static final class State {
        int[] settings = {2, 3, 2};
        boolean[] there = {true, true, true, true, true, true, true, true, true};
        int[] strength = {10, 10, 10, 10, 10, 10, 10, 10, 10};
        int[][] liking = new int[9][9];
        List<Round> rounds = new ArrayList<>();

        State copy() {
            State copy = new State();
            copy.settings = settings.clone();
            copy.there = there.clone();
            copy.strength = strength.clone();
            for (int one = 0; one < 9; one++) {
                copy.liking[one] = liking[one].clone();
            }
            copy.rounds = new ArrayList<>(rounds);
            return copy;
        }
    }

    private State now = new State();
    private String pad = "";
    private final Deque<State> history = new ArrayDeque<>();
    private final State[] slots = new State[2];

    private void keep() {
        history.addLast(now.copy());
        if (history.size() > 6) {
            history.removeFirst();
        }
    }

    private static boolean nobody(int villager) {
        return villager < 0 || villager > 8;
    }

    private static boolean noNumber(int number) {
        return number < 0 || number > 999;
    }

    int set(int setting, int value) {
        if (setting < 0 || setting > 2 || value > 9 || value < (setting == 2 ? -9 : 0)) {
            return BAD_VALUE;
        }
        keep();
        int previous = now.settings[setting];
        now.settings[setting] = value;
        return previous;
    }

    int like(int one, int other, int liking) {
        if (nobody(one) || nobody(other)) {
            return NO_SUCH;
        }
        if (one == other || liking < -9 || liking > 9) {
            return BAD_VALUE;
        }
        keep();
        int previous = now.liking[one][other];
        now.liking[one][other] = liking;
        now.liking[other][one] = liking;
        return previous;
    }

    int away(int villager, boolean isAway) {
        if (nobody(villager)) {
            return NO_SUCH;
        }
        if (now.there[villager] == !isAway) {
            return NOT_POSSIBLE;
        }
        keep();
        now.there[villager] = !isAway;
        return Integer.bitCount(thereSet());
    }

    int call(int number) {
        if (noNumber(number)) {
            return BAD_VALUE;
        }
        if (now.rounds.size() == 9999) {
            return TOO_MANY;
        }
        keep();
        return dance(now, number).dances.size();
    }

    int read() {
        if (fault() != NONE) {
            return BAD_TEXT;
        }
        List<Integer> numbers = new ArrayList<>();
        for (String call : pad.split(",")) {
            String[] parts = call.split("\\*");
            int times = parts.length == 2 ? Integer.parseInt(parts[0]) : 1;
            for (int time = 0; time < times; time++) {
                numbers.add(Integer.parseInt(parts[parts.length - 1]));
            }
        }
        if (now.rounds.size() + numbers.size() > 9999) {
            return TOO_MANY;
        }
        keep();
        int pairs = 0;
        for (int number : numbers) {
            pairs += dance(now, number).dances.size();
        }
        pad = "";
        return pairs;
    }

    /** What a round would bring, without dancing it. */
    private static Round look(State state, int number) {
        Round round = new Round(number, new ArrayList<>(), new ArrayList<>(), new ArrayList<>());
        boolean[] dancing = new boolean[9];
        boolean[] partnered = new boolean[9];
        for (int one = 0; one < 9; one++) {
            for (int other = one + 1; other < 9; other++) {
                if ((one + other - number) % 9 == 0) {
                    partnered[one] = true;
                    partnered[other] = true;
                    if (fit(state, one) && fit(state, other)) {
                        dancing[one] = true;
                        dancing[other] = true;
                        round.dances.add(new Dance(one, other, state.settings[2] + state.liking[one][other]));
                    }
                }
            }
        }
        for (int one = 0; one < 9; one++) {
            if (state.there[one] && !dancing[one]) {
                round.resting.add(one);
                if (partnered[one]) {
                    round.alone.add(one);
                }
            }
        }
        return round;
    }

    private static boolean fit(State state, int villager) {
        return state.there[villager] && state.strength[villager] >= state.settings[0];
    }

    private static Round dance(State state, int number) {
        Round round = look(state, number);
        for (Dance dance : round.dances) {
            state.strength[dance.one] -= state.settings[0];
            state.strength[dance.other] -= state.settings[0];
        }
        for (int one : round.resting) {
            state.strength[one] = Math.min(20, state.strength[one] + state.settings[1]);
        }
        state.rounds.add(round);
        return round;
    }

    int feed(int villager, int strength) {
        if (nobody(villager)) {
            return NO_SUCH;
        }
        if (strength < 0 || strength > 20) {
            return BAD_VALUE;
        }
        keep();
        int previous = now.strength[villager];
        now.strength[villager] = strength;
        return previous;
    }

    int villager(int villager, int what) {
        if (nobody(villager)) {
            return NO_SUCH;
        }
        if (what < 0 || what > 7) {
            return BAD_VALUE;
        }
        int joy = 0;
        int danced = 0;
        int rested = 0;
        int alone = 0;
        int[] with = new int[9];
        for (Round round : now.rounds) {
            for (Dance dance : round.dances) {
                if (dance.has(villager)) {
                    joy += dance.joyOfEach;
                    danced++;
                    with[dance.one + dance.other - villager]++;
                }
            }
            rested += round.resting.contains(villager) ? 1 : 0;
            alone += round.alone.contains(villager) ? 1 : 0;
        }
        int set = 0;
        int most = 0;
        for (int other = 8; other >= 0; other--) {
            set |= with[other] > 0 ? 1 << other : 0;
            most = with[other] >= with[most] ? other : most;
        }
        int[] answers = {now.there[villager] ? 1 : 0, now.strength[villager], joy, danced, rested, alone, set,
            danced == 0 ? NONE : most};
        return answers[what];
    }

    int pair(int one, int other, int what) {
        if (nobody(one) || nobody(other)) {
            return NO_SUCH;
        }
        if (one == other || what < 0 || what > 4) {
            return BAD_VALUE;
        }
        int told = 0;
        int last = NONE;
        for (int at = 0; at < now.rounds.size(); at++) {
            told += now.rounds.get(at).number % 9 == (one + other) % 9 ? 1 : 0;
            for (Dance dance : now.rounds.get(at).dances) {
                last = dance.isOf(one, other) ? at : last;
            }
        }
        int[] answers = {now.liking[one][other], dances(now, one, other), (one + other) % 9, told, last};
        return answers[what];
    }

    private static int dances(State state, int one, int other) {
        int dances = 0;
        for (Round round : state.rounds) {
            for (Dance dance : round.dances) {
                dances += dance.isOf(one, other) ? 1 : 0;
            }
        }
        return dances;
    }

    int partner(int villager, int number) {
        if (nobody(villager)) {
            return NO_SUCH;
        }
        if (noNumber(number)) {
            return BAD_VALUE;
        }
        for (int other = 0; other < 9; other++) {
            if (other != villager && (villager + other) % 9 == number % 9) {
                return other;
            }
        }
        return NONE;
    }

    private int thereSet() {
        int set = 0;
        for (int one = 0; one < 9; one++) {
            set |= now.there[one] ? 1 << one : 0;
        }
        return set;
    }

    private static boolean[][] met(State state) {
        boolean[][] met = new boolean[9][9];
        for (Round round : state.rounds) {
            for (Dance dance : round.dances) {
                met[dance.one][dance.other] = true;
            }
        }
        return met;
    }

    /** The unmet pairs, each as lower * 10 + greater. */
    private static List<Integer> unmet(boolean[] there, boolean[][] met) {
        List<Integer> unmet = new ArrayList<>();
        for (int one = 0; one < 9; one++) {
            for (int other = one + 1; other < 9; other++) {
                if (there[one] && there[other] && !met[one][other]) {
                    unmet.add(10 * one + other);
                }
            }
        }
        return unmet;
    }

    int count(int what) {
        if (what < 0 || what > 12) {
            return BAD_VALUE;
        }
        int dances = 0;
        int joy = 0;
        int alone = 0;
        int last = NONE;
        for (Round round : now.rounds) {
            dances += round.dances.size();
            for (Dance dance : round.dances) {
                joy += 2 * dance.joyOfEach;
            }
            alone += round.alone.size();
            last = round.number;
        }
        int strength = 0;
        for (int one = 0; one < 9; one++) {
            strength += now.strength[one];
        }
        int[] answers = {now.settings[0], now.settings[1], now.settings[2], now.rounds.size(), thereSet(), dances, joy,
            unmet(now.there, met(now)).size(), alone, strength, last, pad.length(), history.size()};
        return answers[what];
    }

    int ifCalled(int number, int what) {
        if (noNumber(number) || what < 0 || what > 3) {
            return BAD_VALUE;
        }
        Round round = look(now, number);
        int joy = 0;
        int first = 0;
        for (Dance dance : round.dances) {
            joy += 2 * dance.joyOfEach;
            first += dances(now, dance.one, dance.other) == 0 ? 1 : 0;
        }
        int[] answers = {round.dances.size(), joy, round.alone.size(), first};
        return answers[what];
    }

    int bestCall(int what) {
        if (what < 0 || what > 1) {
            return BAD_VALUE;
        }
        int best = 8;
        for (int remainder = 7; remainder >= 0; remainder--) {
            best = ifCalled(remainder, 1) >= ifCalled(best, 1) ? remainder : best;
        }
        return what == 0 ? best : ifCalled(best, 1);
    }

    int fewestRounds(int way) {
        if (way < 0 || way > 1) {
            return BAD_VALUE;
        }
        return way == 0 ? byRemainders() : byTrying();
    }

    private int byRemainders() {
        boolean[] has = new boolean[9];
        for (int pair : unmet(now.there, met(now))) {
            has[(pair / 10 + pair % 10) % 9] = true;
        }
        int count = 0;
        for (boolean one : has) {
            count += one ? 1 : 0;
        }
        return count;
    }

    private int byTrying() {
        boolean[][] met = met(now);
        int rounds = 0;
        List<Integer> unmet = unmet(now.there, met);
        while (!unmet.isEmpty()) {
            int told = (unmet.get(0) / 10 + unmet.get(0) % 10) % 9;
            for (int one = 0; one < 9; one++) {
                for (int other = one + 1; other < 9; other++) {
                    met[one][other] |= (one + other) % 9 == told;
                }
            }
            rounds++;
            unmet = unmet(now.there, met);
        }
        return rounds;
    }

    int untilAllMet() {
        State trial = now.copy();
        boolean[][] met = met(now);
        for (int rounds = 0; rounds <= 500; rounds++) {
            if (unmet(now.there, met).isEmpty()) {
                return rounds;
            }
            for (Dance dance : dance(trial, rounds % 9).dances) {
                met[dance.one][dance.other] = true;
            }
        }
        return NONE;
    }

    int put(long characters) {
        StringBuilder text = new StringBuilder();
        int at = 0;
        while (at < 8 && (characters >>> 8 * at & 255) != 0) {
            text.insert(0, (char) (characters >>> 8 * at & 255));
            at++;
        }
        boolean more = at < 8 && characters >>> 8 * at != 0;
        if (at == 0 || more || !text.chars().allMatch(code -> code >= 33 && code <= 126)) {
            return BAD_VALUE;
        }
        if (pad.length() + at > 60) {
            return TOO_MANY;
        }
        pad += text;
        return pad.length();
    }

    int wipe() {
        int length = pad.length();
        pad = "";
        return length;
    }

    /** A beginning can be a text's, if the matcher takes it or would have looked at a character behind it. */
    int fault() {
        for (int length = 1; length <= pad.length(); length++) {
            Matcher matcher = TEXT.matcher(pad.substring(0, length));
            if (!matcher.matches() && !matcher.hitEnd()) {
                return length - 1;
            }
        }
        return TEXT.matcher(pad).matches() ? NONE : pad.length();
    }

    int undo() {
        if (history.isEmpty()) {
            return NOT_POSSIBLE;
        }
        now = history.removeLast();
        return history.size();
    }

    int save(int slot) {
        if (slot < 0 || slot > 1) {
            return BAD_VALUE;
        }
        slots[slot] = now.copy();
        return now.rounds.size();
    }

    int restore(int slot) {
        if (slot < 0 || slot > 1) {
            return BAD_VALUE;
        }
        if (slots[slot] == null) {
            return NOT_POSSIBLE;
        }
        keep();
        now = slots[slot].copy();
        return now.rounds.size();
    }
}
