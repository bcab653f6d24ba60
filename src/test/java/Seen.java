import java.util.function.Supplier;

/**
 * What can be seen of an object, as a text of answers, so that two states can be compared. What a call would change is
 * asked of an object that is made anew, so that none is used for more than 512 calls.
 */
final class Seen {
    private Seen() {
    }

    /** Everything: the pad, each state of the history and both slots, too. */
    static String whole(Supplier<NineDancers> maker) {
        NineDancers dance = maker.get();
        StringBuilder text = new StringBuilder(ring(dance));
        text.append("pad: ").append(dance.count(11)).append(' ').append(dance.fault()).append('\n');
        int history = dance.count(12);
        text.append("history: ").append(history).append('\n');
        for (int times = 1; times <= history + 1; times++) {
            dance = maker.get();
            text.append("undone ").append(times).append(": ").append(undone(dance, times)).append('\n');
            text.append(ring(dance));
        }
        for (int slot = 0; slot < 2; slot++) {
            dance = maker.get();
            text.append("restored ").append(slot).append(": ").append(dance.restore(slot)).append('\n');
            text.append(ring(dance));
        }
        dance = maker.get();
        text.append("read: ").append(dance.read()).append('\n');
        return text.append(ring(dance)).toString();
    }

    /** Undoes so often, and returns what the last undo answered. */
    static int undone(NineDancers dance, int times) {
        int answer = 0;
        for (int time = 0; time < times; time++) {
            answer = dance.undo();
        }
        return answer;
    }

    /** What undo and the slots bring back: all but the pad, the history and the slots. */
    static String ring(NineDancers dance) {
        StringBuilder text = new StringBuilder();
        for (int what = 0; what <= 10; what++) {
            text.append("count ").append(what).append(": ").append(dance.count(what)).append('\n');
        }
        for (int one = 0; one < 9; one++) {
            text.append("villager ").append(one).append(':');
            for (int what = 0; what <= 7; what++) {
                text.append(' ').append(dance.villager(one, what));
            }
            text.append('\n');
        }
        for (int one = 0; one < 9; one++) {
            for (int other = one + 1; other < 9; other++) {
                text.append("pair ").append(one).append(' ').append(other).append(':');
                text.append(' ').append(dance.pair(one, other, 0));
                text.append(' ').append(dance.pair(one, other, 1));
                text.append(' ').append(dance.pair(one, other, 4)).append('\n');
            }
        }
        return text.append(whatIf(dance)).toString();
    }

    private static String whatIf(NineDancers dance) {
        StringBuilder text = new StringBuilder();
        for (int remainder = 0; remainder < 9; remainder++) {
            int told = remainder == 0 ? dance.pair(1, 8, 3) : dance.pair(0, remainder, 3);
            text.append("remainder ").append(remainder).append(": ").append(told);
            for (int what = 0; what <= 3; what++) {
                text.append(' ').append(dance.ifCalled(remainder, what));
            }
            text.append('\n');
        }
        text.append("best: ").append(dance.bestCall(0)).append(' ').append(dance.bestCall(1)).append('\n');
        text.append("fewest: ").append(dance.fewestRounds(0)).append(' ').append(dance.fewestRounds(1)).append('\n');
        return text.append("until all met: ").append(dance.untilAllMet()).append('\n').toString();
    }

    /** The first line in which two texts are not the same, of both. */
    static String difference(String got, String want) {
        String[] ofGot = got.split("\n");
        String[] ofWant = want.split("\n");
        for (int at = 0; at < Math.min(ofGot.length, ofWant.length); at++) {
            if (!ofGot[at].equals(ofWant[at])) {
                return "'" + ofGot[at] + "' and not '" + ofWant[at] + "'";
            }
        }
        return got.equals(want) ? "none" : "one goes on";
    }
}
