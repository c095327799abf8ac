/** Promises 17 to 19: put, wipe and fault. */
public final class TextsTest {
    private static final Check CHECK = new Check("TextsTest");
    private static final int BAD_VALUE = -2, TOO_MANY = -4, NONE = -6;

    public static void main(String[] args) {
        put();
        putTooMany();
        wipe();
        fault();
        CHECK.finish();
    }

    private static void due(String call, long got, long want) {
        CHECK.due(call, got, want);
    }

    private static void put() {
        CountedTerms x = new CountedTerms();
        due("no character", x.put(0), BAD_VALUE);
        due("code 32", x.put(32), BAD_VALUE);
        due("code 127", x.put(127), BAD_VALUE);
        due("code 255", x.put(255), BAD_VALUE);
        due("code 32 ahead", x.put(32 << 8 | 'a'), BAD_VALUE);
        due("code 128 as the first of 8", x.put(0x80L << 56 | 0x61616161616161L), BAD_VALUE);
        due("code 127 as the first of 8", x.put(0x7FL << 56 | 0x61616161616161L), BAD_VALUE);
        due("all bits", x.put(-1), BAD_VALUE);
        due("the lowest number", x.put(Long.MIN_VALUE), BAD_VALUE);
        due("the greatest number", x.put(Long.MAX_VALUE), BAD_VALUE);
        due("a bit above 8 that are 0", x.put(1 << 16 | 'a'), BAD_VALUE);
        due("characters with a gap", x.put('L' << 16 | 'a'), BAD_VALUE);
        due("a bit far above", x.put(1L << 62 | 'a'), BAD_VALUE);
        due("the lowest 8 bits are 0", x.put('a' << 8), BAD_VALUE);
        due("the pad", x.count(2), 0);
        due("code 33", x.put(33), 1);
        due("code 126", x.put(126), 2);
        due("8 characters", x.put(Check.packed("abcdefgh")), 10);
        due("not a change", x.count(3), 0);
        x.wipe();
        due("the order of the characters", x.put(Check.packed("@L0")), 3);
        due("and of the calls", x.put('f'), 4);
        due("read", x.read(0), 4);
        CHECK.due("the term", Check.text(x, 0), "@L0f");
    }

    private static void putTooMany() {
        CountedTerms x = new CountedTerms();
        Check.write(x, "L".repeat(56));
        due("61 characters", x.put(Check.packed("LLLLL")), TOO_MANY);
        due("a bad code comes first", x.put(Check.packed("LLLL ")), BAD_VALUE);
        due("the pad stays", x.count(2), 56);
        due("60 characters", x.put(Check.packed("LLLa")), 60);
        due("one more", x.put('a'), TOO_MANY);
        due("no character comes first", x.put(0), BAD_VALUE);
        due("no fault", x.fault(), NONE);
        due("read", x.read(0), 60);
    }

    private static void wipe() {
        CountedTerms x = new CountedTerms();
        due("wipe nothing", x.wipe(), 0);
        Check.write(x, "LL1");
        due("wipe", x.wipe(), 3);
        due("the pad", x.count(2), 0);
        due("wipe again", x.wipe(), 0);
        due("not a change", x.count(3), 0);
        Check.write(x, "f");
        due("behind it", x.read(0), 1);
        CHECK.due("the term", Check.text(x, 0), "f");
    }

    private static void faultIs(String text, int place) {
        CountedTerms x = new CountedTerms();
        Check.write(x, text);
        due("the fault of " + text, x.fault(), place);
        due("the pad stays", x.count(2), text.length());
        due("read " + text, x.read(0), place == NONE ? text.length() : -3);
    }

    private static void fault() {
        faultIs("", 0);
        faultIs("a", NONE);
        faultIs("f", NONE);
        faultIs("g", 0);
        faultIs("A", 0);
        faultIs("`", 0);
        faultIs("l", 0);
        faultIs("0", 0);
        faultIs("L", 1);
        faultIs("L0", NONE);
        faultIs("L1", 1);
        faultIs("LL1", NONE);
        faultIs("LL2", 2);
        faultIs("L/", 1);
        faultIs("L:", 1);
        faultIs("@", 1);
        faultIs("@a", 2);
        faultIs("@ab", NONE);
        faultIs("@abc", 3);
        faultIs("aa", 1);
        faultIs("aL", 1);
        faultIs("L0L", 2);
        faultIs("@L00", 3);
        faultIs("@L0L0", NONE);
        faultIs("L@L10", NONE);
        faultIs("L@L11", 4);
        faultIs("L@@L1L@200", 7);
        faultIs("L@@L1L@100", NONE);
        faultIs("@@@abcL", 7);
        faultIs("L".repeat(9) + "9", 9);
        faultIs("L".repeat(10) + "9", NONE);
        faultIs("@".repeat(60), 60);
        faultIs("L".repeat(60), 60);
        faultIs(Check.chain(59), NONE);
        faultIs(Check.chain(59) + "a", 59);
        faultIs("@".repeat(59) + "a", 60);
        faultIs("@x@", 1);
    }
}
