/** Each promise by hand: ordinary calls, the edges that the document names, wrong arguments. */
public final class PromisesTest {
    private static final int NO_SUCH = -1000001;
    private static final int BAD_VALUE = -1000002;
    private static final int BAD_TEXT = -1000003;
    private static final int TOO_MANY = -1000004;
    private static final int NOT_POSSIBLE = -1000005;
    private static final int NONE = -1000006;
    private static final int[] NO_VILLAGERS = {-1, 9, 10, Integer.MIN_VALUE, Integer.MAX_VALUE};
    private static final int[] NO_NUMBERS = {-1, 1000, Integer.MIN_VALUE, Integer.MAX_VALUE};

    private static Checks checks;

    public static void main(String[] arguments) {
        checks = new Checks("PromisesTest");
        constants();
        newObject();
        set();
        like();
        away();
        call();
        callTiresAndRests();
        callLeavesAlone();
        callUntilTooMany();
        read();
        readUntilTooMany();
        feed();
        villager();
        pair();
        partner();
        count();
        ifCalled();
        bestCall();
        fewestRounds();
        untilAllMet();
        untilAllMetAtTheEnd();
        put();
        wipe();
        fault();
        undo();
        undoKeepsSix();
        undoOfEachChange();
        save();
        restore();
        checks.finish();
    }

    private static void due(String what, long got, long want) {
        checks.due(what, got, want);
    }

    private static void constants() {
        due("NO_SUCH", NineDancers.NO_SUCH, NO_SUCH);
        due("BAD_VALUE", NineDancers.BAD_VALUE, BAD_VALUE);
        due("BAD_TEXT", NineDancers.BAD_TEXT, BAD_TEXT);
        due("TOO_MANY", NineDancers.TOO_MANY, TOO_MANY);
        due("NOT_POSSIBLE", NineDancers.NOT_POSSIBLE, NOT_POSSIBLE);
        due("NONE", NineDancers.NONE, NONE);
        due("TIRE", NineDancers.TIRE, 0);
        due("REST", NineDancers.REST, 1);
        due("BASE", NineDancers.BASE, 2);
    }

    private static void newObject() {
        NineDancers dance = new NineDancers();
        int[] counts = {2, 3, 2, 0, 511, 0, 0, 36, 0, 90, NONE, 0, 0};
        for (int what = 0; what < counts.length; what++) {
            due("1: count(" + what + ")", dance.count(what), counts[what]);
        }
        int[] ofVillager = {1, 10, 0, 0, 0, 0, 0, NONE};
        int[] ofPair = {0, 0, -1, 0, NONE};
        for (int one = 0; one < 9; one++) {
            for (int what = 0; what < 8; what++) {
                due("1: villager(" + one + ", " + what + ")", dance.villager(one, what), ofVillager[what]);
            }
            for (int other = 0; other < 9; other++) {
                for (int what = 0; what < 5 && other != one; what++) {
                    int want = what == 2 ? (one + other) % 9 : ofPair[what];
                    due("1: pair(" + one + ", " + other + ", " + what + ")", dance.pair(one, other, what), want);
                }
            }
        }
        due("1: undo()", dance.undo(), NOT_POSSIBLE);
        due("1: restore(0)", dance.restore(0), NOT_POSSIBLE);
        due("1: restore(1)", dance.restore(1), NOT_POSSIBLE);
        due("1: fault()", dance.fault(), 0);
        NineDancers another = new NineDancers();
        dance.call(5);
        dance.put('1');
        due("1: another's rounds", another.count(3), 0);
        due("1: another's pad", another.count(11), 0);
    }

    private static void set() {
        NineDancers dance = new NineDancers();
        int[] least = {0, 0, -9};
        int[] first = {2, 3, 2};
        for (int setting = 0; setting < 3; setting++) {
            due("2: least", dance.set(setting, least[setting]), first[setting]);
            due("2: count of least", dance.count(setting), least[setting]);
            due("2: greatest", dance.set(setting, 9), least[setting]);
            due("2: same again", dance.set(setting, 9), 9);
            due("2: below", dance.set(setting, least[setting] - 1), BAD_VALUE);
            due("2: above", dance.set(setting, 10), BAD_VALUE);
            due("2: far below", dance.set(setting, Integer.MIN_VALUE), BAD_VALUE);
            due("2: far above", dance.set(setting, Integer.MAX_VALUE), BAD_VALUE);
            due("2: unchanged", dance.count(setting), 9);
        }
        due("2: setting -1", dance.set(-1, 0), BAD_VALUE);
        due("2: setting 3", dance.set(3, 0), BAD_VALUE);
        due("2: least setting", dance.set(Integer.MIN_VALUE, 0), BAD_VALUE);
        due("2: greatest setting", dance.set(Integer.MAX_VALUE, 0), BAD_VALUE);
        dance = new NineDancers();
        dance.set(0, 4);
        dance.set(1, 10);
        due("2: errors are no changes", dance.count(12), 1);
    }

    private static void like() {
        NineDancers dance = new NineDancers();
        due("3: like(3, 7, -9)", dance.like(3, 7, -9), 0);
        due("3: like(7, 3, 9)", dance.like(7, 3, 9), -9);
        due("3: pair(3, 7, 0)", dance.pair(3, 7, 0), 9);
        due("3: pair(7, 3, 0)", dance.pair(7, 3, 0), 9);
        due("3: pair(3, 8, 0)", dance.pair(3, 8, 0), 0);
        due("3: like(0, 8, 4)", dance.like(0, 8, 4), 0);
        due("3: pair(8, 0, 0)", dance.pair(8, 0, 0), 4);
        due("3: changes", dance.count(12), 3);
        due("3: liking 10", dance.like(3, 7, 10), BAD_VALUE);
        due("3: liking -10", dance.like(3, 7, -10), BAD_VALUE);
        due("3: least liking", dance.like(3, 7, Integer.MIN_VALUE), BAD_VALUE);
        due("3: the same", dance.like(4, 4, 0), BAD_VALUE);
        for (int nobody : NO_VILLAGERS) {
            due("3: no one", dance.like(nobody, 0, 10), NO_SUCH);
            due("3: no other", dance.like(0, nobody, 10), NO_SUCH);
            due("3: neither", dance.like(nobody, nobody, 0), NO_SUCH);
        }
        due("3: unchanged", dance.pair(3, 7, 0), 9);
        due("3: no more changes", dance.count(12), 3);
    }

    private static void away() {
        NineDancers dance = new NineDancers();
        due("4: there already", dance.away(5, false), NOT_POSSIBLE);
        due("4: away(5)", dance.away(5, true), 8);
        due("4: away already", dance.away(5, true), NOT_POSSIBLE);
        due("4: villager(5, 0)", dance.villager(5, 0), 0);
        due("4: villager(4, 0)", dance.villager(4, 0), 1);
        due("4: away(8)", dance.away(8, true), 7);
        due("4: away(0)", dance.away(0, true), 6);
        due("4: who is there", dance.count(4), 511 - 32 - 256 - 1);
        due("4: back(5)", dance.away(5, false), 7);
        due("4: villager(5, 0) again", dance.villager(5, 0), 1);
        due("4: changes", dance.count(12), 4);
        for (int nobody : NO_VILLAGERS) {
            due("4: nobody away", dance.away(nobody, true), NO_SUCH);
            due("4: nobody back", dance.away(nobody, false), NO_SUCH);
        }
        due("4: no more changes", dance.count(12), 4);
    }

    private static void call() {
        NineDancers dance = new NineDancers();
        dance.like(1, 2, 7);
        due("5: call(3)", dance.call(3), 4);
        int[] partners = {3, 2, 1, 0, 8, 7, NONE, 5, 4};
        for (int one = 0; one < 9; one++) {
            boolean sits = one == 6;
            due("5: strength of " + one, dance.villager(one, 1), sits ? 13 : 8);
            due("5: joy of " + one, dance.villager(one, 2), sits ? 0 : one == 1 || one == 2 ? 9 : 2);
            due("5: danced " + one, dance.villager(one, 3), sits ? 0 : 1);
            due("5: rested " + one, dance.villager(one, 4), sits ? 1 : 0);
            due("5: alone " + one, dance.villager(one, 5), 0);
            due("5: with whom " + one, dance.villager(one, 6), sits ? 0 : 1 << partners[one]);
            due("5: most often " + one, dance.villager(one, 7), partners[one]);
        }
        due("5: rounds", dance.count(3), 1);
        due("5: call(0)", dance.call(0), 4);
        due("5: call(999)", dance.call(999), 4);
        due("5: 999 is told as 0", dance.pair(1, 8, 3), 2);
        due("5: last number", dance.count(10), 999);
        due("5: joy", dance.count(6), 4 * 2 * 2 + 14 + 32);
        for (int wrong : NO_NUMBERS) {
            due("5: call(" + wrong + ")", dance.call(wrong), BAD_VALUE);
        }
        due("5: rounds then", dance.count(3), 3);
        due("5: changes", dance.count(12), 4);
    }

    private static void callTiresAndRests() {
        NineDancers dance = new NineDancers();
        dance.set(0, 5);
        dance.set(1, 9);
        dance.feed(0, 5);
        dance.feed(1, 4);
        dance.feed(5, 12);
        due("5: just strong enough", dance.call(2), 4);
        due("5: nothing is left", dance.villager(0, 1), 0);
        due("5: the one who sat", dance.villager(1, 1), 13);
        due("5: too weak", dance.call(5), 3);
        due("5: rested from 0", dance.villager(0, 1), 9);
        due("5: its partner rested", dance.villager(5, 1), 16);
        due("5: only the two who rested", dance.call(1), 1);
        due("5: 20 at most", dance.villager(5, 1), 20);
        due("5: rests", dance.villager(5, 4), 2);
        dance = new NineDancers();
        dance.set(0, 0);
        dance.feed(0, 0);
        due("5: no strength needed", dance.call(1), 4);
        due("5: none taken", dance.villager(0, 1), 0);
    }

    private static void callLeavesAlone() {
        NineDancers dance = new NineDancers();
        dance.away(2, true);
        dance.away(4, true);
        dance.away(6, true);
        due("5: of those who are there", dance.call(6), 2);
        due("5: alone as 2 is away", dance.villager(4, 5), 0);
        due("5: neither for 2", dance.villager(2, 4), 0);
        due("5: 2 keeps its strength", dance.villager(2, 1), 10);
        due("5: 0 was left alone", dance.villager(0, 5), 1);
        due("5: 0 rested", dance.villager(0, 4), 1);
        due("5: 0's strength", dance.villager(0, 1), 13);
        due("5: 3 sat", dance.villager(3, 4), 1);
        due("5: 3 was not left alone", dance.villager(3, 5), 0);
        due("5: 6 got nothing", dance.villager(6, 4) + dance.villager(6, 5), 0);
        due("5: left alone", dance.count(8), 1);
        due("5: the one who sits is away", dance.call(4), 2);
        due("5: it does not rest", dance.villager(2, 4), 0);
        dance.feed(1, 0);
        due("5: both are left alone", dance.call(1), 1);
        due("5: 0 again", dance.villager(0, 5), 3);
        due("5: 1 with it", dance.villager(1, 5), 1);
    }

    /** More than 512 calls: nothing promises that, but fewer can't reach 9999 rounds. */
    private static void callUntilTooMany() {
        NineDancers dance = new NineDancers();
        for (int round = 0; round < 9999; round++) {
            dance.call(round % 1000);
        }
        due("5: 9999 rounds", dance.count(3), 9999);
        due("5: too many", dance.call(0), TOO_MANY);
        due("5: the number is looked at first", dance.call(1000), BAD_VALUE);
        due("5: still 9999", dance.count(3), 9999);
        due("5: last number", dance.count(10), 998);
        dance.put('0');
        due("6: one is too many", dance.read(), TOO_MANY);
        due("6: the pad stands", dance.count(11), 1);
        dance.put('*');
        due("6: the text is looked at first", dance.read(), BAD_TEXT);
    }

    private static void read() {
        NineDancers dance = new NineDancers();
        due("6: empty", dance.read(), BAD_TEXT);
        Texts.putAll(dance, "7,3*16,0");
        due("6: read()", dance.read(), 20);
        due("6: rounds", dance.count(3), 5);
        due("6: the pad is emptied", dance.count(11), 0);
        due("6: last number", dance.count(10), 0);
        due("6: 7 three times and once", dance.pair(0, 7, 3), 4);
        due("6: danced last", dance.pair(0, 7, 4), 3);
        due("6: 0 once", dance.pair(1, 8, 3), 1);
        due("6: one change", dance.count(12), 1);
        due("6: empty again", dance.read(), BAD_TEXT);
        due("6: undo", dance.undo(), 0);
        due("6: rounds are undone", dance.count(3), 0);
        due("6: the pad is not", dance.count(11), 0);
        Texts.putAll(dance, "9*999,2*10,123,");
        due("6: ends too early", dance.read(), BAD_TEXT);
        due("6: pad stands", dance.count(11), 15);
        due("6: no change", dance.count(12), 0);
        dance.put('5');
        dance.set(0, 0);
        due("6: read all", dance.read(), 4 * 13);
        due("6: nine times 999", dance.pair(4, 5, 1), 9);
        due("6: twice 10", dance.pair(0, 1, 1), 2);
        due("6: once 123", dance.pair(0, 6, 1), 1);
        due("6: once 5", dance.pair(0, 5, 4), 12);
        Texts.putAll(dance, "9*0,".repeat(14) + "10,0");
        due("6: a full pad", dance.read(), 4 * 128);
        due("6: its rounds", dance.count(3), 13 + 128);
        dance = new NineDancers();
        dance.set(0, 9);
        dance.set(1, 0);
        Texts.putAll(dance, "9*1");
        due("6: pairs that dance", dance.read(), 4);
        due("6: rounds all the same", dance.count(3), 9);
    }

    /** More than 512 calls: nothing promises that, but fewer can't reach 9999 rounds. */
    private static void readUntilTooMany() {
        NineDancers dance = new NineDancers();
        for (int round = 0; round < 9990; round++) {
            dance.call(1);
        }
        Texts.putAll(dance, "8*2,3,4");
        due("6: ten are too many", dance.read(), TOO_MANY);
        due("6: nothing was told", dance.count(3), 9990);
        due("6: the pad stands", dance.count(11), 7);
        dance.wipe();
        Texts.putAll(dance, "8*2,3");
        dance.set(0, 0);
        due("6: nine are not", dance.read(), 36);
        due("6: 9999", dance.count(3), 9999);
        due("6: no more", dance.call(1), TOO_MANY);
    }

    private static void feed() {
        NineDancers dance = new NineDancers();
        due("7: feed(8, 20)", dance.feed(8, 20), 10);
        due("7: feed(8, 0)", dance.feed(8, 0), 20);
        due("7: feed(8, 0) again", dance.feed(8, 0), 0);
        due("7: strength", dance.villager(8, 1), 0);
        due("7: of all", dance.count(9), 80);
        dance.away(3, true);
        due("7: one who is away", dance.feed(3, 7), 10);
        due("7: its strength", dance.villager(3, 1), 7);
        due("7: changes", dance.count(12), 5);
        for (int nobody : NO_VILLAGERS) {
            due("7: nobody", dance.feed(nobody, 21), NO_SUCH);
        }
        due("7: 21", dance.feed(0, 21), BAD_VALUE);
        due("7: -1", dance.feed(0, -1), BAD_VALUE);
        due("7: least", dance.feed(0, Integer.MIN_VALUE), BAD_VALUE);
        due("7: unchanged", dance.villager(0, 1), 10);
        due("7: no more changes", dance.count(12), 5);
    }

    private static void villager() {
        NineDancers dance = new NineDancers();
        dance.set(0, 0);
        dance.like(0, 4, -5);
        dance.call(6);
        dance.call(4);
        dance.call(4);
        dance.call(6);
        dance.call(0);
        due("8: there", dance.villager(0, 0), 1);
        due("8: strength", dance.villager(0, 1), 13);
        due("8: joy", dance.villager(0, 2), 2 + 2 - 3 - 3);
        due("8: danced", dance.villager(0, 3), 4);
        due("8: rested", dance.villager(0, 4), 1);
        due("8: alone", dance.villager(0, 5), 0);
        due("8: with whom", dance.villager(0, 6), 16 + 64);
        due("8: most often, the lowest", dance.villager(0, 7), 4);
        dance.call(15);
        due("8: most often, the greatest", dance.villager(0, 7), 6);
        due("8: 6's most often", dance.villager(6, 7), 0);
        dance.away(6, true);
        due("8: even if it is away", dance.villager(0, 7), 6);
        due("8: away", dance.villager(6, 0), 0);
        for (int nobody : NO_VILLAGERS) {
            due("8: nobody", dance.villager(nobody, 8), NO_SUCH);
        }
        due("8: what 8", dance.villager(0, 8), BAD_VALUE);
        due("8: what -1", dance.villager(0, -1), BAD_VALUE);
        due("8: greatest what", dance.villager(0, Integer.MAX_VALUE), BAD_VALUE);
        due("8: did not dance", new NineDancers().villager(8, 7), NONE);
    }

    private static void pair() {
        NineDancers dance = new NineDancers();
        dance.like(8, 6, 3);
        dance.call(2);
        dance.call(5);
        dance.call(14);
        dance.away(6, true);
        dance.call(5);
        for (int order = 0; order < 2; order++) {
            int one = order == 0 ? 6 : 8;
            int other = order == 0 ? 8 : 6;
            due("9: liking", dance.pair(one, other, 0), 3);
            due("9: dances", dance.pair(one, other, 1), 2);
            due("9: remainder", dance.pair(one, other, 2), 5);
            due("9: told", dance.pair(one, other, 3), 3);
            due("9: last", dance.pair(one, other, 4), 2);
        }
        due("9: first round is 0", dance.pair(0, 2, 4), 0);
        due("9: never", dance.pair(0, 1, 4), NONE);
        due("9: never told", dance.pair(0, 1, 3), 0);
        due("9: what 5", dance.pair(0, 1, 5), BAD_VALUE);
        due("9: what -1", dance.pair(0, 1, -1), BAD_VALUE);
        due("9: the same", dance.pair(4, 4, 2), BAD_VALUE);
        for (int nobody : NO_VILLAGERS) {
            due("9: no one", dance.pair(nobody, 0, 5), NO_SUCH);
            due("9: no other", dance.pair(0, nobody, 5), NO_SUCH);
            due("9: neither", dance.pair(nobody, nobody, 0), NO_SUCH);
        }
    }

    private static void partner() {
        NineDancers dance = new NineDancers();
        for (int number = 0; number < 1000; number += number == 18 ? 963 : 1) {
            for (int one = 0; one < 9; one++) {
                int want = NONE;
                for (int other = 0; other < 9; other++) {
                    if (other != one && (one + other) % 9 == number % 9) {
                        want = other;
                    }
                }
                due("10: partner(" + one + ", " + number + ")", dance.partner(one, number), want);
            }
        }
        dance.away(4, true);
        dance.feed(0, 0);
        due("10: whoever is there", dance.partner(0, 4), 4);
        due("10: sits", dance.partner(6, 3), NONE);
        for (int wrong : NO_NUMBERS) {
            due("10: number " + wrong, dance.partner(0, wrong), BAD_VALUE);
        }
        for (int nobody : NO_VILLAGERS) {
            due("10: nobody", dance.partner(nobody, 1000), NO_SUCH);
        }
    }

    private static void count() {
        NineDancers dance = new NineDancers();
        dance.set(0, 4);
        dance.set(1, 1);
        dance.set(2, -7);
        dance.away(1, true);
        dance.call(100);
        dance.like(0, 2, 9);
        dance.call(2);
        dance.put('7');
        int[] counts = {4, 1, -7, 2, 511 - 2, 7, 7 * -14 + 18, 28 - 7, 1, 90 - 7 * 8 + 2, 2, 1, 6};
        for (int what = 0; what < counts.length; what++) {
            due("11: count(" + what + ")", dance.count(what), counts[what]);
        }
        dance.away(1, false);
        due("11: 7 pairs of those who are there", dance.count(7), 36 - 7);
        due("11: what 13", dance.count(13), BAD_VALUE);
        due("11: what -1", dance.count(-1), BAD_VALUE);
        due("11: greatest what", dance.count(Integer.MAX_VALUE), BAD_VALUE);
        due("11: least what", dance.count(Integer.MIN_VALUE), BAD_VALUE);
    }

    private static void ifCalled() {
        NineDancers dance = new NineDancers();
        dance.like(0, 4, 5);
        dance.like(1, 3, -9);
        dance.away(8, true);
        dance.call(14);
        dance.feed(7, 1);
        due("12: pairs", dance.ifCalled(13, 0), 2);
        due("12: joy", dance.ifCalled(13, 1), 14 - 14);
        due("12: alone", dance.ifCalled(13, 2), 3);
        due("12: for the first time", dance.ifCalled(13, 3), 2);
        due("12: again", dance.ifCalled(5, 3), 0);
        due("12: pairs again", dance.ifCalled(995, 0), 3);
        due("12: alone again", dance.ifCalled(5, 2), 1);
        due("12: nothing changes", dance.count(3), 1);
        due("12: 999", dance.ifCalled(999, 0), dance.ifCalled(0, 0));
        for (int wrong : NO_NUMBERS) {
            due("12: number " + wrong, dance.ifCalled(wrong, 0), BAD_VALUE);
        }
        due("12: what 4", dance.ifCalled(0, 4), BAD_VALUE);
        due("12: what -1", dance.ifCalled(0, -1), BAD_VALUE);
        due("12: no changes", dance.count(12), 5);
    }

    private static void bestCall() {
        NineDancers dance = new NineDancers();
        due("13: the least of all", dance.bestCall(0), 0);
        due("13: joy of all", dance.bestCall(1), 16);
        dance.like(4, 6, 1);
        due("13: the next", dance.bestCall(0), 1);
        due("13: the next one's joy", dance.bestCall(1), 18);
        dance.like(4, 6, 0);
        dance.like(3, 5, 1);
        due("13: the last", dance.bestCall(0), 8);
        due("13: its joy", dance.bestCall(1), 18);
        dance.like(3, 4, 1);
        due("13: of several the least", dance.bestCall(0), 7);
        dance.set(2, -9);
        due("13: joy below 0", dance.bestCall(1), -70);
        due("13: and where", dance.bestCall(0), 7);
        dance.feed(4, 0);
        due("13: fewer pairs are better", dance.bestCall(0), 0);
        due("13: their joy", dance.bestCall(1), -54);
        due("13: what 2", dance.bestCall(2), BAD_VALUE);
        due("13: what -1", dance.bestCall(-1), BAD_VALUE);
        due("13: rounds", dance.count(3), 0);
        dance.set(0, 9);
        for (int one = 0; one < 9; one++) {
            dance.feed(one, 8);
        }
        due("13: no pair dances", dance.bestCall(0), 0);
        due("13: no joy", dance.bestCall(1), 0);
    }

    private static void fewestRounds() {
        NineDancers dance = new NineDancers();
        bothWays(dance, 9);
        dance.call(3);
        bothWays(dance, 8);
        dance.set(0, 9);
        dance.set(1, 0);
        bothWays(dance, 8);
        dance.call(3);
        bothWays(dance, 8);
        for (int one = 0; one < 5; one++) {
            dance.away(one, true);
        }
        bothWays(dance, 4);
        dance.away(5, true);
        bothWays(dance, 3);
        dance.away(6, true);
        bothWays(dance, 1);
        dance.away(7, true);
        bothWays(dance, 0);
        dance.away(8, true);
        bothWays(dance, 0);
        due("14: way 2", dance.fewestRounds(2), BAD_VALUE);
        due("14: way -1", dance.fewestRounds(-1), BAD_VALUE);
        due("14: least way", dance.fewestRounds(Integer.MIN_VALUE), BAD_VALUE);
        due("14: rounds", dance.count(3), 2);
        dance.away(8, false);
        dance.away(0, false);
        bothWays(dance, 1);
        NineDancers complete = new NineDancers();
        complete.set(0, 0);
        for (int number = 0; number < 9; number++) {
            bothWays(complete, 9 - number);
            complete.call(number);
        }
        bothWays(complete, 0);
        NineDancers alone = new NineDancers();
        alone.feed(2, 0);
        alone.call(6);
        bothWays(alone, 9);
    }

    private static void bothWays(NineDancers dance, int want) {
        due("14: fewestRounds(0)", dance.fewestRounds(0), want);
        due("14: fewestRounds(1)", dance.fewestRounds(1), want);
    }

    private static void untilAllMet() {
        NineDancers dance = new NineDancers();
        due("15: first", dance.untilAllMet(), 17);
        dance.set(0, 0);
        due("15: without tiring", dance.untilAllMet(), 9);
        dance.call(8);
        due("15: not the last", dance.untilAllMet(), 8);
        dance.call(0);
        due("15: begins with 0 all the same", dance.untilAllMet(), 8);
        due("15: nothing changes", dance.count(3), 2);
        due("15: no strength goes", dance.villager(1, 1), 10);
        for (int number = 1; number < 8; number++) {
            dance.call(number);
        }
        due("15: they have", dance.untilAllMet(), 0);
        dance = new NineDancers();
        dance.set(0, 9);
        dance.set(1, 0);
        due("15: never", dance.untilAllMet(), NONE);
        for (int one = 2; one < 9; one++) {
            dance.away(one, true);
        }
        due("15: of two", dance.untilAllMet(), 2);
        dance.away(1, true);
        due("15: of one", dance.untilAllMet(), 0);
        dance.away(0, true);
        due("15: of none", dance.untilAllMet(), 0);
        dance.away(0, false);
        dance.away(1, false);
        dance.call(1);
        due("15: of two who met", dance.untilAllMet(), 0);
    }

    /** Strengths found by trying many: with them the last pair meets just within 500 rounds, or just behind. */
    private static void untilAllMetAtTheEnd() {
        NineDancers dance = tiredDance(2, 2, 16, 9, 20, 13, 15, 9, 4);
        due("15: just within 500", dance.untilAllMet(), 500);
        due("15: by calling", roundsByCalling(dance), 500);
        dance = tiredDance(14, 8, 11, 3, 7, 11, 9, 15, 0);
        due("15: just behind 500", dance.untilAllMet(), NONE);
        due("15: by calling on", roundsByCalling(dance), 501);
        due("15: one of two is weak", weakPair(0), NONE);
        due("15: both are strong", weakPair(9), 9);
    }

    private static NineDancers tiredDance(int... strengths) {
        NineDancers dance = new NineDancers();
        dance.set(0, 9);
        dance.set(1, 1);
        for (int one = 0; one < 9; one++) {
            dance.feed(one, strengths[one]);
        }
        return dance;
    }

    /** Tells on the object itself what untilAllMet only tries; most of it is read, as 512 calls would not do. */
    private static int roundsByCalling(NineDancers dance) {
        for (int turn = 0; turn < 55; turn++) {
            Texts.putAll(dance, "0,1,2,3,4,5,6,7,8");
            dance.read();
        }
        int rounds = dance.count(3);
        while (dance.count(7) > 0 && rounds < 510) {
            dance.call(rounds % 9);
            rounds++;
        }
        return rounds;
    }

    private static int weakPair(int strength) {
        NineDancers dance = tiredDance(9, 9, 9, 9, 9, 9, 9, 9, strength);
        dance.set(1, 0);
        for (int one = 1; one < 8; one++) {
            dance.away(one, true);
        }
        return dance.untilAllMet();
    }

    private static void put() {
        NineDancers dance = new NineDancers();
        due("16: none", dance.put(0), BAD_VALUE);
        due("16: one", dance.put('1'), 1);
        due("16: least code", dance.put(33), 2);
        due("16: greatest code", dance.put(126), 3);
        due("16: below", dance.put(32), BAD_VALUE);
        due("16: above", dance.put(127), BAD_VALUE);
        due("16: 128", dance.put(128), BAD_VALUE);
        due("16: 255", dance.put(255), BAD_VALUE);
        due("16: below in the middle", dance.put(0x312031), BAD_VALUE);
        due("16: above in front", dance.put(0x7F3131), BAD_VALUE);
        due("16: behind 8 bits that are 0", dance.put(0x310031), BAD_VALUE);
        due("16: last is 0", dance.put(0x3100), BAD_VALUE);
        due("16: the highest bit behind 0", dance.put(Long.MIN_VALUE | '1'), BAD_VALUE);
        due("16: -1", dance.put(-1), BAD_VALUE);
        due("16: least", dance.put(Long.MIN_VALUE), BAD_VALUE);
        due("16: highest bit of eight", dance.put(0xB131313131313131L), BAD_VALUE);
        due("16: eight", dance.put(Texts.packed("12345678")), 11);
        due("16: length", dance.count(11), 11);
        due("16: no change", dance.count(12), 0);
        for (int length = 19; length < 60; length += 8) {
            due("16: filling", dance.put(Texts.packed("abcdefgh")), length);
        }
        due("16: 59", dance.count(11), 59);
        due("16: two are too many", dance.put(Texts.packed("12")), TOO_MANY);
        due("16: the code is looked at first", dance.put(Texts.packed("1 ")), BAD_VALUE);
        due("16: one is not", dance.put('1'), 60);
        due("16: one more is", dance.put('1'), TOO_MANY);
        due("16: none, though full", dance.put(0), BAD_VALUE);
        due("16: still 60", dance.count(11), 60);
        dance = new NineDancers();
        dance.put(Texts.packed("12"));
        dance.put(Texts.packed("3,4"));
        due("16: in this order", dance.read(), 8);
        due("16: 123 first", dance.pair(0, 6, 4), 0);
        due("16: then 4", dance.count(10), 4);
    }

    private static void wipe() {
        NineDancers dance = new NineDancers();
        due("17: empty", dance.wipe(), 0);
        Texts.putAll(dance, "1,2");
        due("17: three", dance.wipe(), 3);
        due("17: empty then", dance.count(11), 0);
        due("17: again", dance.wipe(), 0);
        due("17: fault", dance.fault(), 0);
        due("17: no change", dance.count(12), 0);
        Texts.putAll(dance, "2*34");
        dance.wipe();
        dance.put('5');
        due("17: nothing of the old text", dance.read(), 4);
        due("17: one round", dance.count(3), 1);
        due("17: last number", dance.count(10), 5);
    }

    private static void fault() {
        String[] faultless = {
            "0", "1", "9", "10", "99", "100", "999", "2*0", "9*999", "0,0", "2*2,3*3,4", "5*10,0,100"};
        for (String text : faultless) {
            faultIs(text, NONE);
        }
        faultIs("1,", 2);
        faultIs("2*", 2);
        faultIs("1,9*", 4);
        faultIs("*", 0);
        faultIs(",", 0);
        faultIs("a", 0);
        faultIs("-1", 0);
        faultIs("00", 1);
        faultIs("01", 1);
        faultIs("1000", 3);
        faultIs("0*1", 1);
        faultIs("1*1", 1);
        faultIs("10*1", 2);
        faultIs("22*1", 2);
        faultIs("2**1", 2);
        faultIs("2*3*4", 3);
        faultIs("2*,", 2);
        faultIs("2*00", 3);
        faultIs("2*1000", 5);
        faultIs("1,,2", 2);
        faultIs("1,2*3,01", 7);
        faultIs("2*3,4*5*6", 7);
        faultIs("12x", 2);
        faultIs("5/", 1);
        faultIs("5:", 1);
        String full = "9*10,9*0,9*0,9*0,9*0,9*0,9*0,9*0,9*0,9*0,9*0,9*0,9*0,9*0,9*";
        faultIs(full, 59);
        faultIs(full + "7", NONE);
        faultIs(full + ",", 59);
        faultIs("9*0,".repeat(15), 60);
    }

    private static void faultIs(String text, int want) {
        NineDancers dance = new NineDancers();
        Texts.putAll(dance, text);
        due("18: fault of " + text, dance.fault(), want);
        due("18: it stands", dance.count(11), text.length());
        int answer = dance.read();
        checks.holds("18: read of " + text, want == NONE ? answer > 0 : answer == BAD_TEXT);
    }

    private static void undo() {
        NineDancers dance = new NineDancers();
        due("19: none", dance.undo(), NOT_POSSIBLE);
        dance.like(0, 1, 4);
        dance.call(1);
        dance.put('3');
        dance.save(0);
        due("19: undo the round", dance.undo(), 1);
        due("19: rounds", dance.count(3), 0);
        due("19: joy", dance.villager(0, 2), 0);
        due("19: strength", dance.villager(0, 1), 10);
        due("19: dances", dance.pair(0, 1, 1), 0);
        due("19: danced last", dance.pair(0, 1, 4), NONE);
        due("19: told", dance.pair(0, 1, 3), 0);
        due("19: last number", dance.count(10), NONE);
        due("19: liking stands", dance.pair(0, 1, 0), 4);
        due("19: the pad stands", dance.count(11), 1);
        due("19: undo the liking", dance.undo(), 0);
        due("19: liking", dance.pair(0, 1, 0), 0);
        due("19: no more", dance.undo(), NOT_POSSIBLE);
        due("19: the slot stands", dance.restore(0), 1);
        due("19: liking in the slot", dance.pair(0, 1, 0), 4);
        dance.wipe();
        due("19: undo the restore, not the wipe", dance.undo(), 0);
        due("19: the pad", dance.count(11), 0);
        due("19: rounds again", dance.count(3), 0);
    }

    private static void undoKeepsSix() {
        NineDancers dance = new NineDancers();
        for (int strength = 0; strength < 8; strength++) {
            dance.feed(0, strength);
            due("19: can be undone", dance.count(12), Math.min(strength + 1, 6));
        }
        for (int left = 5; left >= 0; left--) {
            due("19: left", dance.undo(), left);
            due("19: strength then", dance.villager(0, 1), left + 1);
        }
        due("19: the oldest are dropped", dance.undo(), NOT_POSSIBLE);
        due("19: strength at last", dance.villager(0, 1), 1);
        dance.feed(0, 1);
        due("19: even if nothing is different", dance.count(12), 1);
        dance.feed(0, 15);
        dance.undo();
        dance.feed(0, 16);
        due("19: a new change after undo", dance.count(12), 2);
        due("19: and back", dance.undo(), 1);
        due("19: strength before it", dance.villager(0, 1), 1);
    }

    private static void undoOfEachChange() {
        NineDancers dance = new NineDancers();
        dance.set(2, 5);
        dance.away(6, true);
        dance.call(8);
        dance.feed(2, 19);
        Texts.putAll(dance, "2*8");
        dance.read();
        due("19: all", dance.count(12), 5);
        due("19: read", dance.undo(), 4);
        due("19: rounds", dance.count(3), 1);
        due("19: feed", dance.undo(), 3);
        due("19: strength", dance.villager(2, 1), 13);
        due("19: rested", dance.villager(2, 4), 1);
        due("19: alone", dance.villager(2, 5), 1);
        due("19: danced", dance.villager(0, 3), 1);
        due("19: call", dance.undo(), 2);
        due("19: rested no more", dance.villager(2, 4), 0);
        due("19: alone no more", dance.villager(2, 5), 0);
        due("19: danced no more", dance.villager(0, 3), 0);
        due("19: away", dance.undo(), 1);
        due("19: who is there", dance.count(4), 511);
        due("19: set", dance.undo(), 0);
        due("19: base", dance.count(2), 2);
    }

    private static void save() {
        NineDancers dance = new NineDancers();
        due("20: save(0)", dance.save(0), 0);
        dance.call(4);
        due("20: save(1)", dance.save(1), 1);
        dance.call(5);
        due("20: overwrites", dance.save(0), 2);
        due("20: no change", dance.count(12), 2);
        due("20: slot 2", dance.save(2), BAD_VALUE);
        due("20: slot -1", dance.save(-1), BAD_VALUE);
        due("20: least slot", dance.save(Integer.MIN_VALUE), BAD_VALUE);
        due("20: greatest slot", dance.save(Integer.MAX_VALUE), BAD_VALUE);
        dance.call(6);
        due("20: slot 0", dance.restore(0), 2);
        due("20: slot 1", dance.restore(1), 1);
        due("20: its last number", dance.count(10), 4);
    }

    private static void restore() {
        NineDancers dance = new NineDancers();
        due("21: nothing was saved", dance.restore(1), NOT_POSSIBLE);
        due("21: no change", dance.count(12), 0);
        dance.set(0, 1);
        dance.like(2, 3, -4);
        dance.away(8, true);
        dance.call(5);
        dance.save(1);
        due("21: the other slot", dance.restore(0), NOT_POSSIBLE);
        dance.set(0, 7);
        dance.like(2, 3, 6);
        dance.away(8, false);
        dance.call(6);
        dance.put('8');
        due("21: restore(1)", dance.restore(1), 1);
        due("21: tire", dance.count(0), 1);
        due("21: liking", dance.pair(3, 2, 0), -4);
        due("21: joy", dance.villager(3, 2), -2);
        due("21: away", dance.villager(8, 0), 0);
        due("21: last number", dance.count(10), 5);
        due("21: told 6", dance.pair(0, 6, 3), 0);
        due("21: the pad stands", dance.count(11), 1);
        due("21: the history goes on", dance.count(12), 6);
        dance.call(7);
        due("21: the slot keeps it", dance.restore(1), 1);
        due("21: undo", dance.undo(), 5);
        due("21: rounds", dance.count(3), 2);
        due("21: slot 2", dance.restore(2), BAD_VALUE);
        due("21: slot -1", dance.restore(-1), BAD_VALUE);
        due("21: least slot", dance.restore(Integer.MIN_VALUE), BAD_VALUE);
    }
}
