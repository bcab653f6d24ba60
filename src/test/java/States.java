import java.util.List;
import java.util.function.Supplier;

/** Objects in some states, made anew as often as they are asked for. */
final class States {
    /** What a test has to know of a state: who is away, whether it has a slot saved, its pad's fault and its room. */
    record State(String name, Supplier<NineDancers> maker, int awaySet, boolean saved, boolean faulty, int room) {
    }

    static final List<State> ALL = List.of(
            new State("fresh", NineDancers::new, 0, false, true, 60),
            new State("busy", States::busy, 1 << 7 | 1 << 2, true, true, 57),
            new State("padFull", States::padFull, 0, false, false, 0));

    static final String FULL_TEXT = "9*10,7,6,5*4,3,2,1,0,999,8*998,77,66,55,44,33,22,11,0,0,0,12";

    private States() {
    }

    /** Full history, both slots saved, and not the same in them, two who are away, a pad with a fault. */
    static NineDancers busy() {
        NineDancers dance = new NineDancers();
        dance.set(0, 3);
        dance.set(1, 4);
        dance.set(2, -1);
        dance.like(0, 1, 9);
        dance.like(8, 3, -9);
        dance.call(1);
        dance.call(12);
        dance.away(7, true);
        dance.save(0);
        dance.call(999);
        dance.feed(0, 0);
        dance.feed(5, 20);
        dance.save(1);
        dance.call(21);
        dance.away(2, true);
        dance.like(3, 4, -2);
        dance.call(7);
        Texts.putAll(dance, "2*,");
        return dance;
    }

    /** A pad of 60 characters without a fault, a history that is neither empty nor full, nothing in the slots. */
    static NineDancers padFull() {
        NineDancers dance = new NineDancers();
        dance.set(0, 0);
        dance.call(500);
        Texts.putAll(dance, FULL_TEXT);
        return dance;
    }

    /** So many rounds in as few calls as it takes, but more than 512 for 9999 of them; the pad is empty then. */
    static NineDancers danced(int rounds) {
        NineDancers dance = new NineDancers();
        int left = rounds;
        while (left >= 135) {
            Texts.putAll(dance, "9*1,9*2,9*3,9*4,9*5,9*6,9*7,9*8,9*0,9*1,9*2,9*3,9*4,9*5,9*6");
            dance.read();
            left -= 135;
        }
        while (left > 0) {
            dance.call(left % 9);
            left--;
        }
        return dance;
    }
}
