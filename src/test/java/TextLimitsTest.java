/** Texts, and promises 17 to 19: each sentence there that names a limit. */
public final class TextLimitsTest {
    private static final Check CHECK = new Check("TextLimitsTest");
    private static final int BAD_VALUE = -2, BAD_TEXT = -3, TOO_MANY = -4, NONE = -6;
    private static final long EIGHT = 0x6162636465666162L;

    public static void main(String[] args) {
        putSoMany();
        putTheCodes();
        putInOrder();
        putNothingAbove();
        putBeyondTheEnd();
        wipeThePad();
        faultsOfCodes();
        faultsOfDigits();
        faultsOfTheFirst();
        faultsBehindTheEnd();
        faultsOfTooShort();
        faultsOfTheLongest();
        noFault();
        CHECK.finish();
    }

    private static void due(String call, long got, long want) {
        CHECK.due(call, got, want);
    }

    private static void faultIs(String text, int place) {
        CountedTerms x = new CountedTerms();
        Check.write(x, text);
        due("the fault of " + text, x.fault(), place);
        due("and again", x.fault(), place);
        due("the pad stays", x.count(2), text.length());
        due("read " + text, x.read(0), place == NONE ? text.length() : BAD_TEXT);
    }

    private static void putSoMany() {
        CHECK.sentence("Promise 17", "- `characters`: 1 to 8 characters");
        for (int many = 1; many <= 8; many++) {
            CountedTerms x = new CountedTerms();
            due("put " + many, x.put(EIGHT >>> 8 * (8 - many)), many);
            due("put " + many + " again", x.put(EIGHT >>> 8 * (8 - many)), 2 * many);
            due("the length", x.count(2), 2 * many);
        }
        CountedTerms x = new CountedTerms();
        due("put none", x.put(0), BAD_VALUE);
        due("the pad", x.count(2), 0);
    }

    private static void putTheCodes() {
        CHECK.sentence("Promise 17", "BAD_VALUE if there is no character, a code is not 33 to 126");
        for (int place = 0; place < 8; place++) {
            long others = EIGHT & ~(255L << 8 * place);
            for (int code : new int[] {33, 34, 125, 126}) {
                CountedTerms x = new CountedTerms();
                due("code " + code + " at " + place, x.put(others | (long) code << 8 * place), 8);
            }
            for (int code : new int[] {0, 1, 31, 32, 127, 128, 161, 254, 255}) {
                boolean ends = code == 0 && place == 7;
                CountedTerms x = new CountedTerms();
                due("code " + code + " at " + place, x.put(others | (long) code << 8 * place), ends ? 7 : BAD_VALUE);
                due("the pad", x.count(2), ends ? 7 : 0);
            }
        }
        for (int code = 0; code < 256; code++) {
            CountedTerms x = new CountedTerms();
            due("code " + code, x.put(code), code >= 33 && code <= 126 ? 1 : BAD_VALUE);
        }
        CountedTerms x = new CountedTerms();
        for (long number : new long[] {-1, Long.MIN_VALUE, Long.MAX_VALUE, Integer.MIN_VALUE, Integer.MAX_VALUE}) {
            due("put " + number, x.put(number), BAD_VALUE);
        }
    }

    private static void putInOrder() {
        CHECK.sentence("Promise 17", "its lowest 8 bits are the last character, the next 8 bits the one before, and so on");
        CountedTerms x = new CountedTerms();
        x.put('@' << 8 | 'L');
        x.put('0' << 16 | '@' << 8 | 'a');
        x.put('f');
        due("read", x.read(0), 6);
        CHECK.holds(x, 0, "@L0@af");
        x.put(Check.packed("@@@@abcd"));
        x.put('e');
        x.read(0);
        CHECK.holds(x, 0, "@@@@abcde");
    }

    private static void putNothingAbove() {
        CHECK.sentence("Promise 17", "8 bits that are 0 mean that there are no more characters, and everything above them has to be 0, too.");
        CountedTerms x = new CountedTerms();
        for (int zero = 0; zero < 7; zero++) {
            long below = zero == 0 ? 0 : EIGHT >>> 8 * (8 - zero);
            for (int bit = 8 * zero + 8; bit < 64; bit++) {
                due("bit " + bit + " above " + zero + " characters", x.put(below | 1L << bit), BAD_VALUE);
            }
            due("'a' above " + zero + " characters", x.put(below | (long) 'a' << 8 * zero + 8), BAD_VALUE);
        }
        due("the pad", x.count(2), 0);
    }

    private static void putBeyondTheEnd() {
        CHECK.sentence("Promise 17", "TOO_MANY if the pad would be longer than 60.");
        for (int many = 1; many <= 8; many++) {
            long last = EIGHT >>> 8 * (8 - many);
            CountedTerms x = new CountedTerms();
            Check.write(x, "L".repeat(61 - many));
            due("61 by the last " + many, x.put(last), TOO_MANY);
            due("none of them is there", x.wipe(), 61 - many);
            Check.write(x, "L".repeat(60 - many));
            due("60 by the last " + many, x.put(last), 60);
            due("one more", x.put('a'), TOO_MANY);
            due("8 more", x.put(EIGHT), TOO_MANY);
            due("a code beyond", x.put(' '), BAD_VALUE);
            due("no character", x.put(0), BAD_VALUE);
            due("60 are there", x.wipe(), 60);
            due("room again", x.put(EIGHT), 8);
        }
        CountedTerms x = new CountedTerms();
        Check.write(x, "L".repeat(59));
        x.put(Check.packed("ab"));
        x.put('c');
        due("the last one fits", x.read(0), 60);
        due("it is the constant c", x.part(0, 59, 1), 2);
    }

    private static void wipeThePad() {
        CHECK.sentence("Promise 18", "Empties the pad, and returns the length that it had.");
        CountedTerms x = new CountedTerms();
        due("an empty pad", x.wipe(), 0);
        for (int length : new int[] {1, 8, 59, 60}) {
            Check.write(x, "!".repeat(length));
            due("so many", x.wipe(), length);
            due("the length then", x.count(2), 0);
            due("once more", x.wipe(), 0);
            due("the fault then", x.fault(), 0);
        }
        Check.write(x, "@L");
        x.wipe();
        Check.write(x, "f");
        due("nothing is left", x.read(0), 1);
        due("a wipe is no change", x.count(3), 1);
    }

    private static void faultsOfCodes() {
        CHECK.sentence("Terms", "\"L\", \"@\", a digit from 0 to 9 for a variable, a letter from a to f for a constant");
        for (int code = 33; code <= 126; code++) {
            // Within ten L each digit may stand; behind an L or an @ the text ends too early.
            String text = "L".repeat(10) + (char) code;
            boolean whole = code >= 'a' && code <= 'f' || code >= '0' && code <= '9';
            boolean open = code == 'L' || code == '@';
            faultIs(text, whole ? NONE : open ? 11 : 10);
        }
        faultIs("LK", 1);
        faultIs("LM", 1);
        faultIs("Ll", 1);
        faultIs("L?", 1);
        faultIs("LA", 1);
    }

    private static void faultsOfDigits() {
        CHECK.sentence("Terms", "(also a digit that is not less than the number of L around it)");
        for (int around = 0; around <= 10; around++) {
            for (int digit = 0; digit <= 9; digit++) {
                faultIs("L".repeat(around) + digit, digit < around ? NONE : around);
            }
        }
        faultIs("@L00", 3);
        faultIs("@LL1L1", 5);
        faultIs("L@LL32", 4);
        faultIs("L@LL22", 5);
        faultIs("L@LL12", 5);
        faultIs("L@LL11", 5);
        faultIs("L@LL10", NONE);
        faultIs("@@LLL2LL1L0", NONE);
        faultIs("@@LLL2LL2L0", 8);
    }

    private static void faultsOfTheFirst() {
        CHECK.sentence("Terms", "The fault is the index of the first character that cannot stand at its place when the text is read from left to right");
        faultIs("!", 0);
        faultIs("!!", 0);
        faultIs("L!0!", 1);
        faultIs("@a!", 2);
        faultIs("@a0!", 2);
        faultIs("@ab!0", 3);
        faultIs("L".repeat(59) + "g", 59);
        faultIs("g".repeat(60), 0);
        faultIs("L".repeat(58) + "gg", 58);
    }

    private static void faultsBehindTheEnd() {
        CHECK.sentence("Terms", "a term, part by part");
        faultIs("aa", 1);
        faultIs("aL", 1);
        faultIs("a@", 1);
        faultIs("L00", 2);
        faultIs("L0!", 2);
        faultIs("@abc", 3);
        faultIs("@@abcd", 5);
        faultIs("@a@bcd", 5);
        faultIs("L".repeat(58) + "9a", 59);
        faultIs(Check.chain(59) + "L", 59);
    }

    private static void faultsOfTooShort() {
        CHECK.sentence("Terms", "if there is none and the text ends too early (also if it is empty), it is the length of the text");
        faultIs("", 0);
        faultIs("L", 1);
        faultIs("@", 1);
        faultIs("@a", 2);
        faultIs("@La", 3);
        faultIs("@@ab", 4);
        faultIs("@a@b", 4);
        faultIs("L@0", 3);
        for (int length = 1; length <= 59; length++) {
            faultIs(Check.chain(61).substring(0, length), length);
        }
        faultIs(Check.chain(61).substring(0, 60), 60);
        faultIs("L".repeat(60), 60);
        faultIs("@".repeat(60), 60);
    }

    private static void faultsOfTheLongest() {
        CHECK.sentence("Terms", "The pad is a text of at most 60 characters");
        faultIs(Check.chain(59), NONE);
        faultIs(Check.chain(60), NONE);
        faultIs("L".repeat(59) + "0", NONE);
        faultIs("L".repeat(49) + "@@@@@98765f", NONE);
        faultIs("@".repeat(29) + "b".repeat(31), 59);
        faultIs("@".repeat(30) + "b".repeat(30), 60);
        faultIs("L".repeat(58) + "@a", 60);
    }

    private static void noFault() {
        CHECK.sentence("Promise 19", "Returns the fault of the pad, NONE if there is none.");
        faultIs("a", NONE);
        faultIs("f", NONE);
        faultIs("L0", NONE);
        faultIs("@ff", NONE);
        CountedTerms x = new CountedTerms();
        due("a new pad", x.fault(), 0);
        x.put('@');
        due("one part", x.fault(), 1);
        x.put('a');
        due("two parts", x.fault(), 2);
        x.put('b');
        due("a term", x.fault(), NONE);
        x.put('c');
        due("a part too many", x.fault(), 3);
        x.wipe();
        due("an empty pad again", x.fault(), 0);
    }
}
