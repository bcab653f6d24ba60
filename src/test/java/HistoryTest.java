import java.util.List;
import java.util.function.Consumer;

/** The edges of undo, save and restore: the empty and the full history, what drops out of it, slots without a state. */
public final class HistoryTest {
    /** A change of each kind, some of them twice; the seventh and later ones let the first ones drop out. */
    private static final List<Consumer<NineDancers>> CHANGES = List.of(
            dance -> dance.set(0, 4),
            dance -> dance.like(2, 8, -7),
            dance -> dance.call(10),
            dance -> dance.away(6, true),
            HistoryTest::readSome,
            dance -> dance.feed(3, 1),
            dance -> dance.restore(1),
            dance -> dance.call(3),
            dance -> dance.set(2, 9),
            dance -> dance.away(0, true),
            dance -> dance.call(999),
            dance -> dance.like(8, 2, 6),
            HistoryTest::readSome,
            dance -> dance.restore(1));

    private static Checks checks;

    public static void main(String[] arguments) {
        checks = new Checks("HistoryTest");
        undoAfterEachChange();
        changesAfterUndo();
        nothingIsDifferent();
        noChanges();
        refusedWhenFull();
        undoKeepsThePad();
        undoKeepsTheSlots();
        emptySlots();
        slotsKeepWhatWasSaved();
        saveOverwrites();
        saveChangesOnlyItsSlot();
        restoreIsOneChange();
        restoreAtTheEdges();
        checks.finish();
    }

    private static void due(String what, long got, long want) {
        checks.due(what, got, want);
    }

    private static void readSome(NineDancers dance) {
        Texts.putAll(dance, "2*8,130");
        dance.read();
    }

    /** Slot 1 has a state that is no other one's. */
    private static NineDancers changed(int changes) {
        NineDancers dance = new NineDancers();
        dance.call(5);
        dance.set(1, 9);
        dance.like(0, 8, 3);
        dance.save(1);
        Seen.undone(dance, 3);
        for (int at = 0; at < changes; at++) {
            CHANGES.get(at).accept(dance);
        }
        return dance;
    }

    /** Behind every number of changes, undo goes back by up to six of them, and no further. */
    private static void undoAfterEachChange() {
        for (int changes = 0; changes <= CHANGES.size(); changes++) {
            int kept = Math.min(changes, 6);
            due("11: after " + changes, changed(changes).count(12), kept);
            for (int times = 1; times <= kept; times++) {
                NineDancers dance = changed(changes);
                String where = "19: undo " + times + " of " + changes;
                due(where, Seen.undone(dance, times), kept - times);
                due(where + ", left", dance.count(12), kept - times);
                checks.same(where, Seen.ring(dance), Seen.ring(changed(changes - times)));
            }
            for (int more = 1; more <= 2; more++) {
                NineDancers dance = changed(changes);
                due("19: one too many", Seen.undone(dance, kept + more), NineDancers.NOT_POSSIBLE);
                due("19: none left", dance.count(12), 0);
                checks.same("19: no further", Seen.ring(dance), Seen.ring(changed(changes - kept)));
            }
        }
    }

    private static void changesAfterUndo() {
        for (int undone = 1; undone <= 6; undone++) {
            for (int more = 1; more <= 7; more++) {
                NineDancers dance = changed(9);
                Seen.undone(dance, undone);
                for (int change = 0; change < more; change++) {
                    dance.feed(4, change);
                }
                String where = "19: " + undone + " undone, " + more + " changes more";
                due(where, dance.count(12), Math.min(6 - undone + more, 6));
                Seen.undone(dance, Math.min(more, 6));
                due(where + ", undone", dance.count(12), more > 6 ? 0 : Math.min(6 - undone, 6 - more));
                if (more <= 6) {
                    checks.same(where, Seen.ring(dance), Seen.ring(changed(9 - undone)));
                } else {
                    due(where + ", strength", dance.villager(4, 1), 0);
                }
            }
        }
    }

    private static void nothingIsDifferent() {
        List<Consumer<NineDancers>> sames = List.of(
                dance -> dance.set(0, 2), dance -> dance.set(1, 3), dance -> dance.set(2, 2),
                dance -> dance.like(1, 0, 0), dance -> dance.feed(8, 10), dance -> dance.restore(0));
        String ring = Seen.ring(new NineDancers());
        for (Consumer<NineDancers> same : sames) {
            checks.same("19: nothing is different", Seen.ring(recordedSevenTimes(same)), ring);
            NineDancers dance = recordedSevenTimes(same);
            due("19: undo", dance.undo(), 5);
            checks.same("19: nor after undo", Seen.ring(dance), ring);
        }
    }

    private static NineDancers recordedSevenTimes(Consumer<NineDancers> same) {
        NineDancers dance = new NineDancers();
        dance.save(0);
        for (int times = 1; times <= 7; times++) {
            same.accept(dance);
            due("19: recorded, though the same", dance.count(12), Math.min(times, 6));
        }
        return dance;
    }

    private static void noChanges() {
        NineDancers dance = new NineDancers();
        dance.save(0);
        dance.put('7');
        dance.wipe();
        dance.fault();
        dance.ifCalled(1, 1);
        dance.untilAllMet();
        due("11: no changes", dance.count(12), 0);
        due("19: nothing to undo", dance.undo(), NineDancers.NOT_POSSIBLE);
        dance.call(1);
        dance.undo();
        due("11: undo is none", dance.count(12), 0);
        due("19: nothing to undo then", dance.undo(), NineDancers.NOT_POSSIBLE);
    }

    /** What is refused lets nothing drop out of a full history. */
    private static void refusedWhenFull() {
        NineDancers dance = new NineDancers();
        for (int strength = 1; strength <= 6; strength++) {
            dance.feed(0, strength);
        }
        dance.set(3, 0);
        dance.like(0, 0, 0);
        dance.away(0, false);
        dance.call(1000);
        dance.read();
        dance.feed(0, 21);
        dance.restore(0);
        dance.restore(2);
        due("11: still six", dance.count(12), 6);
        due("19: all undone", Seen.undone(dance, 6), 0);
        due("19: the first of all", dance.villager(0, 1), 10);
    }

    private static void undoKeepsThePad() {
        NineDancers dance = new NineDancers();
        dance.call(1);
        Texts.putAll(dance, "2*5");
        due("19: undo", dance.undo(), 0);
        due("11: the pad stands", dance.count(11), 3);
        due("6: read", dance.read(), 8);
        due("19: undo of read", dance.undo(), 0);
        due("11: the pad is empty still", dance.count(11), 0);
        due("18: fault", dance.fault(), 0);
        due("11: no rounds", dance.count(3), 0);
        dance.call(1);
        Texts.putAll(dance, "x");
        dance.wipe();
        dance.undo();
        due("11: wiped still", dance.count(11), 0);
    }

    private static void undoKeepsTheSlots() {
        NineDancers dance = savedAndUndone();
        due("21: the other slot is empty", dance.restore(0), NineDancers.NOT_POSSIBLE);
        due("21: restore", dance.restore(1), 2);
        NineDancers two = new NineDancers();
        two.call(1);
        two.call(2);
        checks.same("21: as it was saved", Seen.ring(dance), Seen.ring(two));
        dance = savedAndUndone();
        dance.restore(1);
        due("19: undo of restore", dance.undo(), 0);
        checks.same("19: as it was before", Seen.ring(dance), Seen.ring(new NineDancers()));
        due("21: the slot keeps it", dance.restore(1), 2);
    }

    private static NineDancers savedAndUndone() {
        NineDancers dance = new NineDancers();
        dance.call(1);
        dance.call(2);
        due("20: save", dance.save(1), 2);
        due("19: undo", dance.undo(), 1);
        due("19: undo", dance.undo(), 0);
        return dance;
    }

    private static void emptySlots() {
        for (int saved = 0; saved < 2; saved++) {
            NineDancers dance = new NineDancers();
            due("21: slot 0 is empty", dance.restore(0), NineDancers.NOT_POSSIBLE);
            due("21: slot 1 is empty", dance.restore(1), NineDancers.NOT_POSSIBLE);
            due("21: no change", dance.count(12), 0);
            due("20: a fresh state can be saved", dance.save(saved), 0);
            due("21: the other is empty", dance.restore(1 - saved), NineDancers.NOT_POSSIBLE);
            due("21: the one is not", dance.restore(saved), 0);
            due("19: undo of restore", dance.undo(), 0);
            due("21: saved still", dance.restore(saved), 0);
            due("21: the other is empty still", dance.restore(1 - saved), NineDancers.NOT_POSSIBLE);
        }
    }

    /** Every change after save or restore leaves the slot as it is. */
    private static void slotsKeepWhatWasSaved() {
        String ring = Seen.ring(savedAndChanged(-1));
        for (int change = 0; change < CHANGES.size(); change++) {
            NineDancers dance = savedAndChanged(change);
            due("21: rounds", dance.restore(0), 1);
            checks.same("21: kept in change " + change, Seen.ring(dance), ring);
            CHANGES.get(change).accept(dance);
            due("21: rounds again", dance.restore(0), 1);
            due("21: told last", dance.count(10), 3);
            due("21: tire", dance.count(0), 1);
            due("21: liking", dance.pair(2, 8, 0), 5);
            due("21: strength", dance.villager(3, 1), 20);
        }
    }

    private static NineDancers savedAndChanged(int change) {
        NineDancers dance = new NineDancers();
        dance.save(1);
        dance.set(0, 1);
        dance.like(2, 8, 5);
        dance.away(4, true);
        dance.call(3);
        dance.feed(3, 20);
        dance.save(0);
        if (change >= 0) {
            CHANGES.get(change).accept(dance);
        }
        return dance;
    }

    private static void saveOverwrites() {
        for (int slot = 0; slot < 2; slot++) {
            NineDancers dance = new NineDancers();
            due("20: save", dance.save(slot), 0);
            dance.call(7);
            due("20: overwrites", dance.save(slot), 1);
            dance.undo();
            due("21: the later one", dance.restore(slot), 1);
            dance.undo();
            due("20: overwrites with an earlier state", dance.save(slot), 0);
            dance.call(8);
            due("21: that one", dance.restore(slot), 0);
        }
    }

    private static void saveChangesOnlyItsSlot() {
        String ring = Seen.ring(States.busy());
        for (int slot = 0; slot < 2; slot++) {
            NineDancers dance = savedIn(slot);
            checks.same("20: the ring", Seen.ring(dance), ring);
            due("20: the pad", dance.count(11), 3);
            due("20: the history", dance.count(12), 6);
            dance = savedIn(slot);
            NineDancers other = States.busy();
            due("20: the other slot", dance.restore(1 - slot), other.restore(1 - slot));
            checks.same("20: all of the other slot", Seen.ring(dance), Seen.ring(other));
            dance = savedIn(slot);
            due("20: its own", dance.restore(slot), 5);
            checks.same("20: all of its own", Seen.ring(dance), ring);
        }
    }

    private static NineDancers savedIn(int slot) {
        NineDancers dance = States.busy();
        due("20: save", dance.save(slot), 5);
        return dance;
    }

    private static void restoreIsOneChange() {
        NineDancers dance = restoredAndUndone();
        checks.same("19: as before it", Seen.ring(dance), Seen.ring(States.busy()));
        dance = restoredAndUndone();
        due("19: undo of the change before it", dance.undo(), 4);
        NineDancers other = States.busy();
        other.undo();
        checks.same("19: as that one was", Seen.ring(dance), Seen.ring(other));
    }

    private static NineDancers restoredAndUndone() {
        NineDancers dance = States.busy();
        due("21: restore", dance.restore(0), 2);
        due("11: the history is full still", dance.count(12), 6);
        due("11: the pad stands", dance.count(11), 3);
        due("18: its fault stands", dance.fault(), 2);
        due("19: undo", dance.undo(), 5);
        return dance;
    }

    /** More than 512 calls: nothing promises that, but fewer can't reach 9999 rounds. */
    private static void restoreAtTheEdges() {
        NineDancers dance = States.danced(9999);
        due("20: save at 9999", dance.save(0), 9999);
        due("5: no more", dance.call(0), NineDancers.TOO_MANY);
        due("21: restore at 9999", dance.restore(0), 9999);
        due("5: no more then", dance.call(0), NineDancers.TOO_MANY);
        due("19: undo of it", dance.undo(), 5);
        due("19: undo of a round", dance.undo(), 4);
        int pairs = dance.ifCalled(0, 0);
        due("5: one more is not too many", dance.call(0), pairs);
        due("11: rounds", dance.count(3), 9999);
    }
}
