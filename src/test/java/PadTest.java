/** The edges of texts: each character at each kind of place, the empty and the full pad, each number and each times. */
public final class PadTest {
    private static final int NONE = -1000006;
    private static final String DIGITS = "0123456789";

    private static Checks checks;

    public static void main(String[] arguments) {
        checks = new Checks("PadTest");
        eachCharacterAtEachPlace();
        shortTexts();
        faultIsTheFirstOne();
        endsTooEarly();
        emptyPad();
        fullPad();
        eachLengthOfPad();
        fullPadsThatFail();
        eachNumber();
        eachTimes();
        orderOfCharacters();
        wipeOfEachLength();
        readEmpties();
        checks.finish();
    }

    private static void due(String what, long got, long want) {
        checks.due(what, got, want);
    }

    private static NineDancers with(String text) {
        NineDancers dance = new NineDancers();
        Texts.putAll(dance, text);
        return dance;
    }

    private static void eachCharacterAtEachPlace() {
        place("", DIGITS);
        place("0", ",");
        place("1", DIGITS + ",");
        for (int times = 2; times <= 9; times++) {
            place("" + times, DIGITS + ",*");
            place("1," + times, DIGITS + ",*");
            place(times + "*", DIGITS);
            place(times + "*0", ",");
            place(times + "*" + times, DIGITS + ",");
        }
        place("10", DIGITS + ",");
        place("99", DIGITS + ",");
        place("100", ",");
        place("999", ",");
        place("2*1", DIGITS + ",");
        place("9*10", DIGITS + ",");
        place("9*99", DIGITS + ",");
        place("9*100", ",");
        place("9*999", ",");
        place("0,", DIGITS);
        place("2*0,", DIGITS);
        place("999,", DIGITS);
        place("0,0", ",");
        place("2*5,1", DIGITS + ",");
        place("2*5,20", DIGITS + ",");
        place("2*5,3*", DIGITS);
        place("2*5,3*7", DIGITS + ",");
    }

    /** A digit that can stand there ends a text; behind "," and "*" it ends too early, or one more "," is the fault. */
    private static void place(String before, String allowed) {
        for (char code = 33; code <= 126; code++) {
            boolean isAllowed = allowed.indexOf(code) >= 0;
            int want = !isAllowed ? before.length() : DIGITS.indexOf(code) >= 0 ? NONE : before.length() + 1;
            due("18: fault of " + before + code, with(before + code).fault(), want);
            due("18: fault of " + before + code + ",0", with(before + code + ",0").fault(), want);
        }
    }

    /** All texts of up to five characters, compared with the model's pattern. */
    private static void shortTexts() {
        char[] signs = {'0', '1', '2', '9', '*', ',', 'x'};
        int texts = 1;
        for (int length = 1; length <= 5; length++) {
            texts *= signs.length;
            for (int text = 0; text < texts; text++) {
                long characters = 0;
                for (int at = 0, rest = text; at < length; at++, rest /= signs.length) {
                    characters = characters << 8 | signs[rest % signs.length];
                }
                NineDancers dance = new NineDancers();
                Model model = new Model();
                due("16: put", dance.put(characters), model.put(characters));
                due("18: fault of " + Long.toHexString(characters), dance.fault(), model.fault());
                due("6: read of " + Long.toHexString(characters), dance.read(), model.read());
                due("11: rounds of " + Long.toHexString(characters), dance.count(3), model.count(3));
            }
        }
    }

    private static void faultIsTheFirstOne() {
        due("18: the first of two", with("1x,y").fault(), 1);
        due("18: the first of three", with("0,01,1000,").fault(), 3);
        due("18: not the end", with("1*,").fault(), 1);
        due("18: a fault before a good text", with(",1,2,3").fault(), 0);
        NineDancers dance = with("1,2,x");
        due("18: at 4", dance.fault(), 4);
        Texts.putAll(dance, "yyyyyyyyyyy");
        due("18: more does not change it", dance.fault(), 4);
    }

    private static void endsTooEarly() {
        for (String text : new String[] {"1,", "2*", "0,9*", "999,", "2*3,", "2*3,4*"}) {
            NineDancers dance = with(text);
            due("18: " + text + " ends too early", dance.fault(), text.length());
            due("6: read", dance.read(), NineDancers.BAD_TEXT);
            due("16: goes on", dance.put('5'), text.length() + 1);
            due("18: no fault then", dance.fault(), NONE);
        }
    }

    private static void emptyPad() {
        NineDancers dance = new NineDancers();
        for (int time = 0; time < 2; time++) {
            due("11: length", dance.count(11), 0);
            due("18: fault", dance.fault(), 0);
            due("6: read", dance.read(), NineDancers.BAD_TEXT);
            due("17: wipe", dance.wipe(), 0);
            due("16: none put", dance.put(0), NineDancers.BAD_VALUE);
            dance.put('5');
            due("17: wipe of one", dance.wipe(), 1);
        }
        due("11: rounds", dance.count(3), 0);
        due("11: changes", dance.count(12), 0);
    }

    private static void fullPad() {
        NineDancers dance = with(States.FULL_TEXT);
        due("11: length", dance.count(11), 60);
        due("18: fault", dance.fault(), NONE);
        due("16: one more", dance.put('0'), NineDancers.TOO_MANY);
        due("16: eight more", dance.put(Texts.packed(",1,2,3,4")), NineDancers.TOO_MANY);
        due("16: a bad one first", dance.put(32), NineDancers.BAD_VALUE);
        due("11: length still", dance.count(11), 60);
        due("18: fault still", dance.fault(), NONE);
        dance.set(0, 0);
        due("6: read", dance.read(), 4 * (9 + 1 + 1 + 5 + 5 + 8 + 11));
        due("11: rounds", dance.count(3), 40);
        due("11: last number", dance.count(10), 12);
        due("11: emptied", dance.count(11), 0);
        due("16: there is room again", dance.put(Texts.packed("12345678")), 8);
    }

    /** To each length of the pad, 1 to 8 characters. */
    private static void eachLengthOfPad() {
        for (int length = 0; length <= 60; length++) {
            for (int given = 1; given <= 8; given++) {
                NineDancers dance = with("7".repeat(length));
                boolean fits = length + given <= 60;
                due("16: " + given + " to " + length, dance.put(Texts.packed("12345678".substring(0, given))),
                        fits ? length + given : NineDancers.TOO_MANY);
                due("11: length then", dance.count(11), fits ? length + given : length);
                due("17: wipe", dance.wipe(), fits ? length + given : length);
            }
        }
    }

    private static void fullPadsThatFail() {
        String most = "1,".repeat(29);
        due("18: 59 characters", with(most + "1").fault(), NONE);
        due("18: the last one is 0", with(most + "10").fault(), NONE);
        due("18: the last one is ,", with(most + "1,").fault(), 60);
        due("18: the last one is *", with(most + "2*").fault(), 60);
        due("18: the last one is * behind 1", with(most + "1*").fault(), 59);
        due("18: the last one is bad", with(most + "1x").fault(), 59);
        due("18: the first one is bad", with("x" + most + "1").fault(), 0);
        NineDancers dance = with(most + "1,");
        due("6: read", dance.read(), NineDancers.BAD_TEXT);
        due("17: wipe", dance.wipe(), 60);
        due("18: then", dance.fault(), 0);
    }

    private static void eachNumber() {
        for (int number = 0; number <= 999; number++) {
            NineDancers dance = with("" + number);
            due("18: fault of " + number, dance.fault(), NONE);
            due("6: read of " + number, dance.read(), 4);
            due("11: rounds", dance.count(3), 1);
            due("11: last number", dance.count(10), number);
        }
        for (int number = 1000; number <= 1100; number++) {
            due("18: fault of " + number, with("" + number).fault(), 3);
        }
        for (int number = 0; number <= 99; number++) {
            due("18: fault of 0" + number, with("0" + number).fault(), 1);
        }
    }

    private static void eachTimes() {
        for (int times = 0; times <= 99; times++) {
            for (String number : new String[] {"0", "9", "10", "999"}) {
                String text = times + "*" + number;
                NineDancers dance = with(text);
                dance.set(0, 0);
                if (times >= 2 && times <= 9) {
                    due("6: read of " + text, dance.read(), 4 * times);
                    due("11: rounds of " + text, dance.count(3), times);
                    due("11: last number of " + text, dance.count(10), Integer.parseInt(number));
                } else {
                    due("18: fault of " + text, dance.fault(), times < 10 ? 1 : 2);
                    due("6: read of " + text, dance.read(), NineDancers.BAD_TEXT);
                }
            }
        }
    }

    private static void orderOfCharacters() {
        for (int first = 1; first <= 8; first++) {
            NineDancers dance = new NineDancers();
            String text = "2*31,4*5,678,90";
            due("16: put", dance.put(Texts.packed(text.substring(0, first))), first);
            Texts.putAll(dance, text.substring(first));
            dance.set(0, 0);
            due("6: read", dance.read(), 4 * 8);
            due("9: 31 is told first", dance.pair(0, 4, 4), 1);
            due("9: then 5", dance.pair(0, 5, 4), 5);
            due("9: then 678", dance.pair(0, 3, 4), 6);
            due("9: then 90", dance.pair(1, 8, 4), 7);
            due("11: the last", dance.count(10), 90);
        }
    }

    private static void wipeOfEachLength() {
        for (int length = 0; length <= 60; length++) {
            wipeOf("8".repeat(length));
            wipeOf("*".repeat(length));
        }
    }

    private static void wipeOf(String text) {
        NineDancers dance = with(text);
        due("17: wipe", dance.wipe(), text.length());
        due("11: length", dance.count(11), 0);
        due("18: fault", dance.fault(), 0);
        due("17: wipe again", dance.wipe(), 0);
        due("16: one", dance.put('4'), 1);
        due("6: nothing of the old one is read", dance.read(), 4);
        due("11: one round", dance.count(3), 1);
        due("11: told last", dance.count(10), 4);
    }

    private static void readEmpties() {
        NineDancers dance = with("5*31,7");
        due("6: read", dance.read() > 0 ? 1 : 0, 1);
        due("11: length", dance.count(11), 0);
        due("18: fault", dance.fault(), 0);
        due("6: nothing to read", dance.read(), NineDancers.BAD_TEXT);
        due("17: nothing to wipe", dance.wipe(), 0);
        Texts.putAll(dance, "1,x");
        due("6: a fault", dance.read(), NineDancers.BAD_TEXT);
        due("11: it stands", dance.count(11), 3);
        due("18: where it was", dance.fault(), 2);
        due("11: rounds", dance.count(3), 6);
    }
}
