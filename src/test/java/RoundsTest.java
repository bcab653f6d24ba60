/** The edges of a round: strength at 0, at TIRE, at 20; who has no partner; nobody there; ties. */
public final class RoundsTest {
    private static final int NONE = -1000006;
    private static final int EVERYBODY = 511;

    private static Checks checks;

    public static void main(String[] arguments) {
        checks = new Checks("RoundsTest");
        strengthOfTwo();
        strengthOfOneWhoSits();
        strengthOfOneWhoIsLeftAlone();
        restAndTireThatAreNothing();
        joyOfTwo();
        greatestJoyOfAll();
        whoSits();
        whyLeftAlone();
        firstDances();
        nobodyThere();
        oneThere();
        eachRemainder();
        roundsAreNumberedFrom0();
        numberToldLast();
        mostOftenTies();
        bestCallTies();
        bestCallBelow0();
        everySetOfThoseThere();
        untilAllMetFromAnyRound();
        mostRoundsWithin512Calls();
        lastRounds();
        checks.finish();
    }

    private static void due(String what, long got, long want) {
        checks.due(what, got, want);
    }

    private static NineDancers withThere(int there) {
        NineDancers dance = new NineDancers();
        for (int one = 0; one < 9; one++) {
            if ((there >> one & 1) == 0) {
                dance.away(one, true);
            }
        }
        return dance;
    }

    private static void strengthOfTwo() {
        for (int tire = 0; tire <= 9; tire++) {
            for (int first = 0; first <= 20; first++) {
                for (int second = 0; second <= 20; second++) {
                    strengthOfTwo(tire, first, second);
                }
            }
        }
    }

    private static void strengthOfTwo(int tire, int first, int second) {
        String where = "5: tire " + tire + ", strengths " + first + " and " + second + ": ";
        NineDancers dance = withThere(0b11);
        dance.set(0, tire);
        dance.feed(0, first);
        dance.feed(1, second);
        int dancing = first >= tire && second >= tire ? 1 : 0;
        due(where + "12: ifCalled pairs", dance.ifCalled(1, 0), dancing);
        due(where + "12: ifCalled alone", dance.ifCalled(1, 2), 2 - 2 * dancing);
        due(where + "call", dance.call(1), dancing);
        int[] strengths = {first, second};
        for (int one = 0; one < 2; one++) {
            int rested = Math.min(20, strengths[one] + 3);
            due(where + "strength", dance.villager(one, 1), dancing == 1 ? strengths[one] - tire : rested);
            due(where + "danced", dance.villager(one, 3), dancing);
            due(where + "rested", dance.villager(one, 4), 1 - dancing);
            due(where + "alone", dance.villager(one, 5), 1 - dancing);
        }
    }

    private static void strengthOfOneWhoSits() {
        for (int rest = 0; rest <= 9; rest++) {
            for (int strength = 0; strength <= 20; strength++) {
                NineDancers dance = new NineDancers();
                dance.set(1, rest);
                dance.feed(5, strength);
                dance.call(1);
                due("5: rest " + rest + " to " + strength, dance.villager(5, 1), Math.min(20, strength + rest));
            }
        }
    }

    private static void strengthOfOneWhoIsLeftAlone() {
        for (int rest = 0; rest <= 9; rest++) {
            for (int strength = 0; strength <= 20; strength++) {
                NineDancers dance = new NineDancers();
                dance.set(1, rest);
                dance.away(1, true);
                dance.feed(1, strength);
                dance.feed(0, strength);
                dance.call(1);
                due("5: rest " + rest + " alone", dance.villager(0, 1), Math.min(20, strength + rest));
                due("5: rest " + rest + " away", dance.villager(1, 1), strength);
            }
        }
    }

    private static void restAndTireThatAreNothing() {
        NineDancers dance = new NineDancers();
        dance.set(0, 0);
        dance.set(1, 0);
        for (int one = 0; one < 9; one++) {
            dance.feed(one, one % 3 * 10);
        }
        due("5: all dance without strength", dance.call(8), 4);
        for (int one = 0; one < 9; one++) {
            due("5: strength stays", dance.villager(one, 1), one % 3 * 10);
        }
        due("5: whoever sits rests, though nothing comes", dance.villager(4, 4), 1);
        dance.set(0, 9);
        due("5: 3 and 6 are not strong enough then", dance.call(0), 3);
        due("5: both were left alone", dance.villager(3, 5) + dance.villager(6, 5), 2);
        due("5: and nothing comes to them", dance.villager(3, 1) + dance.villager(6, 1), 0);
    }

    private static void joyOfTwo() {
        for (int base = -9; base <= 9; base++) {
            for (int liking = -9; liking <= 9; liking++) {
                NineDancers dance = withThere(0b100010000);
                dance.set(2, base);
                dance.like(8, 4, liking);
                due("12: joy", dance.ifCalled(3, 1), 2 * (base + liking));
                dance.call(3);
                due("5: joy of 4", dance.villager(4, 2), base + liking);
                due("5: joy of 8", dance.villager(8, 2), base + liking);
                due("11: joy of all", dance.count(6), 2 * (base + liking));
            }
        }
    }

    private static void greatestJoyOfAll() {
        for (int most : new int[] {-9, 9}) {
            NineDancers dance = new NineDancers();
            dance.set(0, 0);
            dance.set(2, most);
            for (int one = 1; one <= 4; one++) {
                dance.like(one, 9 - one, most);
            }
            due("12: joy of all", dance.ifCalled(0, 1), 8 * 2 * most);
            due("13: joy of the best", dance.bestCall(1), most > 0 ? 144 : 2 * 4 * -9);
            Texts.putAll(dance, "9*0,9*999,9*9");
            due("6: pairs", dance.read(), 27 * 4);
            due("11: joy in 27 rounds", dance.count(6), 27 * 8 * 2 * most);
            due("8: joy of one", dance.villager(1, 2), 27 * 2 * most);
        }
    }

    /** Five times the remainder sits: twice that is ten times the remainder, and ten is one. */
    private static void whoSits() {
        for (int remainder = 0; remainder < 9; remainder++) {
            int sitting = 5 * remainder % 9;
            for (int there = 0; there < 2; there++) {
                NineDancers dance = withThere(there == 1 ? EVERYBODY : EVERYBODY - (1 << sitting));
                due("10: sits", dance.partner(sitting, remainder), NONE);
                due("12: no one is left alone", dance.ifCalled(remainder, 2), 0);
                due("5: the others dance", dance.call(remainder), 4);
                due("5: rested", dance.villager(sitting, 4), there);
                due("5: strength", dance.villager(sitting, 1), 10 + 3 * there);
                due("5: not left alone", dance.villager(sitting, 5), 0);
                due("5: did not dance", dance.villager(sitting, 3), 0);
                due("5: no joy", dance.villager(sitting, 2), 0);
                due("11: nobody was left alone", dance.count(8), 0);
            }
        }
    }

    private static void whyLeftAlone() {
        int[][] strengthsAndAlone = {{10, 1, 2}, {1, 10, 2}, {1, 1, 2}, {2, 2, 0}, {2, 1, 2}, {0, 20, 2}};
        for (int[] row : strengthsAndAlone) {
            NineDancers dance = new NineDancers();
            dance.feed(2, row[0]);
            dance.feed(8, row[1]);
            due("12: alone", dance.ifCalled(1, 2), row[2]);
            due("5: pairs", dance.call(1), 4 - row[2] / 2);
            due("11: alone", dance.count(8), row[2]);
            due("8: alone", dance.villager(2, 5) + dance.villager(8, 5), row[2]);
        }
        for (int weak = 0; weak < 2; weak++) {
            NineDancers dance = withThere(EVERYBODY - (1 << 8));
            dance.feed(2, weak == 1 ? 0 : 20);
            due("12: alone as 8 is away", dance.ifCalled(1, 2), 1);
            due("5: three pairs", dance.call(1), 3);
            due("8: 2 was left alone", dance.villager(2, 5), 1);
            due("8: 8 was not", dance.villager(8, 5), 0);
        }
        NineDancers dance = withThere(EVERYBODY - (1 << 8) - (1 << 2));
        due("12: both are away", dance.ifCalled(1, 2), 0);
        dance.call(1);
        due("11: nobody was left alone", dance.count(8), 0);
    }

    /** Pairs that can't dance do not dance for the first time either, and those that danced once have. */
    private static void firstDances() {
        for (int remainder = 0; remainder < 9; remainder++) {
            NineDancers dance = new NineDancers();
            int one = (5 * remainder + 1) % 9;
            int other = dance.partner(one, remainder);
            due("12: all for the first time", dance.ifCalled(remainder, 3), 4);
            dance.feed(one, 1);
            due("12: one is too weak", dance.ifCalled(remainder, 3), 3);
            dance.call(remainder);
            due("12: it is not too weak then", dance.ifCalled(remainder, 3), 1);
            due("12: though all would dance", dance.ifCalled(remainder, 0), 4);
            due("12: nobody else met", dance.ifCalled(remainder + 1, 3), 4);
            dance.away(other, true);
            due("12: its partner is away", dance.ifCalled(remainder + 9, 3), 0);
            dance.away(other, false);
            dance.call(remainder);
            due("12: never more", dance.ifCalled(remainder + 990, 3), 0);
        }
    }

    private static void nobodyThere() {
        NineDancers dance = withThere(0);
        due("11: who is there", dance.count(4), 0);
        due("11: pairs", dance.count(7), 0);
        due("14: by remainders", dance.fewestRounds(0), 0);
        due("14: by trying", dance.fewestRounds(1), 0);
        due("15: untilAllMet", dance.untilAllMet(), 0);
        due("13: remainder", dance.bestCall(0), 0);
        due("13: joy", dance.bestCall(1), 0);
        for (int what = 0; what <= 3; what++) {
            due("12: ifCalled", dance.ifCalled(4, what), 0);
        }
        due("10: partner", dance.partner(0, 4), 4);
        due("5: call", dance.call(4), 0);
        due("11: rounds", dance.count(3), 1);
        due("11: told last", dance.count(10), 4);
        due("9: told", dance.pair(0, 4, 3), 1);
        due("9: not danced", dance.pair(0, 4, 1), 0);
        due("11: strength of all", dance.count(9), 90);
        due("11: alone", dance.count(8), 0);
        Texts.putAll(dance, "9*1,9*2");
        due("6: read", dance.read(), 0);
        due("11: rounds then", dance.count(3), 19);
        for (int one = 0; one < 9; one++) {
            due("8: rested", dance.villager(one, 4), 0);
            due("4: comes back", dance.away(one, false), one + 1);
        }
    }

    private static void oneThere() {
        for (int alone = 0; alone < 9; alone++) {
            NineDancers dance = withThere(1 << alone);
            due("11: who is there", dance.count(4), 1 << alone);
            due("11: no pair", dance.count(7), 0);
            due("15: all have met", dance.untilAllMet(), 0);
            due("14: no round", dance.fewestRounds(0) + dance.fewestRounds(1), 0);
            for (int number = 0; number < 9; number++) {
                due("5: no pair dances", dance.call(number), 0);
            }
            due("8: alone but for the one round", dance.villager(alone, 5), 8);
            due("8: rested", dance.villager(alone, 4), 9);
            due("8: strength", dance.villager(alone, 1), 20);
            due("8: with nobody", dance.villager(alone, 6), 0);
            due("8: the most with nobody", dance.villager(alone, 7), NONE);
            due("4: the last one goes", dance.away(alone, true), 0);
        }
    }

    private static void eachRemainder() {
        for (int number = 0; number <= 999; number++) {
            NineDancers dance = new NineDancers();
            due("5: call(" + number + ")", dance.call(number), 4);
            due("11: told last", dance.count(10), number);
            for (int one = 0; one < 9; one++) {
                int want = NONE;
                for (int other = 0; other < 9; other++) {
                    want = other != one && (one + other - number) % 9 == 0 ? other : want;
                }
                due("10: partner(" + one + ", " + number + ")", dance.partner(one, number), want);
                due("8: danced with", dance.villager(one, 7), want);
                due("8: as a set", dance.villager(one, 6), want == NONE ? 0 : 1 << want);
            }
            for (int other = 1; other < 9; other++) {
                int told = dance.pair(0, other, 2) == number % 9 ? 1 : 0;
                due("9: told", dance.pair(0, other, 3), told);
                due("9: danced", dance.pair(0, other, 1), told);
            }
        }
    }

    private static void roundsAreNumberedFrom0() {
        NineDancers dance = new NineDancers();
        due("9: never", dance.pair(7, 8, 4), NONE);
        dance.call(15);
        due("9: the first round", dance.pair(7, 8, 4), 0);
        dance.call(0);
        due("9: still", dance.pair(7, 8, 4), 0);
        dance.call(6);
        due("9: the last of two", dance.pair(7, 8, 4), 2);
        dance.feed(7, 1);
        dance.call(6);
        due("9: told, but not danced", dance.pair(7, 8, 4), 2);
        due("9: how often it was told", dance.pair(7, 8, 3), 3);
        due("9: how often they danced", dance.pair(7, 8, 1), 2);
        dance.undo();
        dance.undo();
        dance.undo();
        due("9: undone", dance.pair(7, 8, 4), 0);
    }

    private static void numberToldLast() {
        NineDancers dance = new NineDancers();
        due("11: none", dance.count(10), NONE);
        dance.call(0);
        due("11: 0 is a number", dance.count(10), 0);
        dance.call(999);
        due("11: not the remainder", dance.count(10), 999);
        dance.call(1000);
        due("11: a refused one is not told", dance.count(10), 999);
        Texts.putAll(dance, "5,2*27");
        dance.read();
        due("11: the last one of the pad", dance.count(10), 27);
        Seen.undone(dance, 3);
        due("11: none again", dance.count(10), NONE);
    }

    /** Each two partners of each villager, the one the other so often: of several, it is the lowest. */
    private static void mostOftenTies() {
        for (int one = 0; one < 9; one++) {
            for (int low = 0; low < 9; low++) {
                for (int high = low + 1; high < 9 && low != one; high++) {
                    if (high != one) {
                        mostOftenTies(one, low, high);
                    }
                }
            }
        }
    }

    private static void mostOftenTies(int one, int low, int high) {
        String where = "8: " + one + " with " + low + " and " + high + ": ";
        NineDancers dance = new NineDancers();
        dance.set(0, 0);
        dance.call(one + high);
        due(where + "the only one", dance.villager(one, 7), high);
        dance.call(one + low);
        due(where + "of two the lowest", dance.villager(one, 7), low);
        dance.call(one + high);
        due(where + "the most", dance.villager(one, 7), high);
        dance.call(one + low);
        due(where + "the lowest again", dance.villager(one, 7), low);
        due(where + "as a set", dance.villager(one, 6), 1 << low | 1 << high);
    }

    /** Villager 0 gives the remainders 1 to 8 a pair that no other one has; 0 has that of 1 and 8. */
    private static void likeOfRemainder(NineDancers dance, int remainder, int liking) {
        dance.like(remainder == 0 ? 1 : 0, remainder == 0 ? 8 : remainder, liking);
    }

    private static void bestCallTies() {
        for (int less = 0; less < 9; less++) {
            for (int more = less; more < 9; more++) {
                NineDancers dance = new NineDancers();
                likeOfRemainder(dance, more, 3);
                due("13: the only one", dance.bestCall(0), more);
                likeOfRemainder(dance, less, 3);
                due("13: of several the least", dance.bestCall(0), less);
                due("13: their joy", dance.bestCall(1), 22);
            }
        }
        NineDancers dance = new NineDancers();
        for (int remainder = 8; remainder >= 0; remainder--) {
            likeOfRemainder(dance, remainder, -1);
            due("13: all but those are the best", dance.bestCall(0), 0);
        }
        due("13: all are the same", dance.bestCall(1), 14);
    }

    private static void bestCallBelow0() {
        NineDancers dance = new NineDancers();
        dance.set(2, -9);
        due("13: all are bad", dance.bestCall(1), -72);
        due("13: the least", dance.bestCall(0), 0);
        for (int one = 0; one < 9; one++) {
            if (one != 4) {
                dance.feed(one, 0);
            }
        }
        due("13: no pair can dance", dance.bestCall(1), 0);
        due("13: the least of none", dance.bestCall(0), 0);
        dance.feed(5, 2);
        due("13: any but the one pair's", dance.bestCall(0), 1);
        due("13: joy 0 is more", dance.bestCall(1), 0);
        due("12: the one pair's", dance.ifCalled(0, 1), -18);
    }

    /** Without tiring, what all sets of those who are there ask for follows from the remainders of their pairs. */
    private static void everySetOfThoseThere() {
        for (int there = 0; there <= EVERYBODY; there++) {
            NineDancers dance = withThere(there);
            dance.set(0, 0);
            int remainders = 0;
            int pairs = 0;
            for (int one = 0; one < 9; one++) {
                due("8: those there are " + there + ", " + one, dance.villager(one, 0), there >> one & 1);
                for (int other = one + 1; other < 9; other++) {
                    if ((there >> one & there >> other & 1) == 1) {
                        pairs++;
                        remainders |= 1 << (one + other) % 9;
                    }
                }
            }
            String where = "those there are " + there + ", ";
            due("11: " + where + "set", dance.count(4), there);
            due("11: " + where + "pairs", dance.count(7), pairs);
            due("14: " + where + "by remainders", dance.fewestRounds(0), Integer.bitCount(remainders));
            due("14: " + where + "by trying", dance.fewestRounds(1), Integer.bitCount(remainders));
            due("15: " + where, dance.untilAllMet(), 32 - Integer.numberOfLeadingZeros(remainders));
        }
    }

    private static void untilAllMetFromAnyRound() {
        for (int told = 0; told < 9; told++) {
            NineDancers dance = withThere(0b11);
            dance.call(told);
            due("15: begins with 0, after " + told, dance.untilAllMet(), told == 1 ? 0 : 2);
            dance.set(1, 1);
            dance.set(0, 9);
            dance.feed(0, 0);
            due("15: in the first round of 1 with strength, after " + told, dance.untilAllMet(), told == 1 ? 0 : 11);
            dance.set(1, 0);
            due("15: strength never comes, after " + told, dance.untilAllMet(), told == 1 ? 0 : NONE);
        }
    }

    /** Seven puts and a read tell the most numbers a call: 126 in eight; 63 such turns leave eight calls to ask. */
    private static void mostRoundsWithin512Calls() {
        NineDancers dance = new NineDancers();
        Model model = new Model();
        String text = "9*10" + ",9*7".repeat(11) + ",9*8,9*0";
        for (int turn = 0; turn < 63; turn++) {
            Texts.putAll(dance, text);
            for (int at = 0; at < text.length(); at += 8) {
                model.put(Texts.packed(text.substring(at, Math.min(at + 8, text.length()))));
            }
            due("6: read in turn " + turn, dance.read(), model.read());
        }
        due("11: rounds", dance.count(3), 63 * 126);
        due("11: dances", dance.count(5), model.count(5));
        due("11: joy", dance.count(6), model.count(6));
        due("11: left alone", dance.count(8), model.count(8));
        due("8: rested", dance.villager(4, 4), model.villager(4, 4));
        due("9: 7 told", dance.pair(0, 7, 3), 63 * 99);
        due("9: the last round", dance.pair(1, 8, 4), model.pair(1, 8, 4));
        due("19: undo of the last read", dance.undo(), 5);
    }

    /** More than 512 calls: nothing promises that, but fewer can't reach 9999 rounds. */
    private static void lastRounds() {
        NineDancers dance = States.danced(9998);
        dance.set(0, 0);
        due("5: round 9999", dance.call(1), 4);
        due("11: rounds", dance.count(3), 9999);
        due("9: numbered from 0", dance.pair(0, 1, 4), 9998);
        String ring = Seen.ring(dance);
        due("5: one more", dance.call(1), NineDancers.TOO_MANY);
        due("5: the number first", dance.call(-1), NineDancers.BAD_VALUE);
        due("6: the fault first", dance.read(), NineDancers.BAD_TEXT);
        dance.put('1');
        due("6: one more", dance.read(), NineDancers.TOO_MANY);
        due("6: the pad stands", dance.count(11), 1);
        checks.same("5: nothing changed", Seen.ring(dance), ring);
        due("19: nor the history", dance.count(12), 6);
        due("12: what if", dance.ifCalled(1, 0), 4);
        due("19: undo", dance.undo(), 5);
        due("6: one is not too many", dance.read(), 4);
        due("6: rounds", dance.count(3), 9999);
        readOfLastRounds(9990, "9*1", 36);
        readOfLastRounds(9991, "9*1", NineDancers.TOO_MANY);
        readOfLastRounds(9864, "9*10" + ",9*1".repeat(14), 540);
        readOfLastRounds(9865, "9*10" + ",9*1".repeat(14), NineDancers.TOO_MANY);
    }

    private static void readOfLastRounds(int rounds, String text, int want) {
        NineDancers dance = States.danced(rounds);
        dance.set(0, 0);
        Texts.putAll(dance, text);
        String ring = Seen.ring(dance);
        String where = "6: " + text + " after " + rounds + " rounds";
        due(where, dance.read(), want);
        due(where + ", pad", dance.count(11), want > 0 ? 0 : text.length());
        if (want > 0) {
            due(where + ", rounds", dance.count(3), 9999);
            due("19: undo of it", dance.undo(), 5);
        }
        checks.same(where + ", all then", Seen.ring(dance), ring);
    }
}
