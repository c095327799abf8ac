/** The document's conventions and terms: each sentence that names a limit, and the first values beyond it. */
public final class TermLimitsTest {
    private static final Check CHECK = new Check("TermLimitsTest");
    private static final int NO_SUCH = -1, BAD_VALUE = -2, BAD_TEXT = -3, TOO_MANY = -4, NONE = -6;

    public static void main(String[] args) {
        calls();
        numberedFromZero();
        noneIsNoError();
        smallestVariable();
        greatestVariable();
        eachVariableIsBound();
        constantsInTexts();
        constantsAsNumbers();
        registers();
        partsOfApply();
        partsOfBind();
        partsOfStep();
        partsOfRun();
        CHECK.finish();
    }

    private static void due(String call, long got, long want) {
        CHECK.due(call, got, want);
    }

    private static void calls() {
        CHECK.sentence("What it is", "An object is used for at most 512 calls after it has been made");
        CountedTerms x = new CountedTerms();
        for (int i = 1; i <= 508; i++) {
            x.copy(i % 6, (i + 1) % 6);
        }
        due("call 509", x.bind(0, 0, 0), 1);
        due("call 510", x.of(0, 0), 2);
        due("call 511", x.undo(), 5);
        due("call 512", x.of(0, 0), 1);
    }

    private static void numberedFromZero() {
        CHECK.sentence("Terms", "Everything is numbered from 0.");
        CountedTerms x = new CountedTerms();
        due("the fault in the first character", faultOf("g"), 0);
        x.put('d');
        due("read register 0", x.read(0), 1);
        due("the first thing about the first part", x.part(0, 0, 0), 1);
        due("the first character", x.named(0, 0), 'd');
        due("constant 0 is not there", x.bind(0, 0, 1), 0);
        due("but in register 5", x.bind(5, 0, 5), 1);
        due("the number of the first part", x.part(5, 1, 4), 0);
        due("save slot 0", x.save(0), 8);
        due("count 0", x.count(0), 8);
        CountedTerms y = Check.with("@L0a");
        due("the first place comes next", y.of(0, 7), 0);
    }

    private static void noneIsNoError() {
        CHECK.sentence("Terms", "NONE (-6) is not an error; it is returned only if no error applies.");
        CountedTerms x = Check.with("b", "@L@00L@00");
        for (int what = 7; what <= 10; what++) {
            due("none in " + what, x.of(0, what), NONE);
            due("no such register for " + what, x.of(6, what), NO_SUCH);
        }
        due("no variable", x.part(0, 0, 4), NONE);
        due("no such part", x.part(0, 1, 4), NO_SUCH);
        due("no end", x.ends(1, 0, 200), NONE);
        due("too much fuel", x.ends(1, 0, 201), BAD_VALUE);
        due("no such order", x.ends(1, 3, 200), BAD_VALUE);
        due("no end for agree", x.agree(1, 200), NONE);
        due("too much fuel for agree", x.agree(1, 201), BAD_VALUE);
        due("no end for alike", x.alike(0, 1, 200), NONE);
        due("no such register for alike", x.alike(1, 6, 200), NO_SUCH);
        due("too little fuel for alike", x.alike(0, 1, 0), BAD_VALUE);
    }

    private static void smallestVariable() {
        CHECK.sentence("Terms", "(0: the innermost one)");
        CountedTerms x = Check.with("LLL0", "LLL1", "LLL2", "L@L00", "L@0L0");
        due("passes over none", x.part(0, 3, 4), 2);
        due("passes over one", x.part(1, 3, 4), 1);
        due("passes over all but the outermost", x.part(2, 3, 4), 0);
        due("within the inner L", x.part(3, 3, 4), 2);
        due("behind the inner L", x.part(3, 4, 4), 0);
        due("ahead of the inner L", x.part(4, 2, 4), 0);
    }

    private static void greatestVariable() {
        CHECK.sentence("Terms", "so many L, of those around it, are passed over from the inside out; the next one binds it");
        CountedTerms x = Check.with("L".repeat(59) + "b");
        Check.deepen(x, 0, 139);
        due("198 L and a constant", x.of(0, 0), 199);
        due("bind it behind all of them", x.bind(0, 1, 0), 1);
        due("200 parts", x.of(0, 0), 200);
        due("the greatest variable that can be", x.of(0, 10), 198);
        due("it is the last part", x.part(0, 199, 1), 198);
        due("199 L are around it", x.part(0, 199, 2), 199);
        due("the outermost one binds it", x.part(0, 199, 4), 0);
    }

    private static int faultOf(String text) {
        CountedTerms x = new CountedTerms();
        Check.write(x, text);
        return x.fault();
    }

    private static void eachVariableIsBound() {
        CHECK.sentence("Terms", "In each term each variable is bound.");
        for (int around = 0; around <= 10; around++) {
            String text = "L".repeat(around);
            if (around > 0) {
                due("the greatest behind " + text, faultOf(text + (around - 1)), NONE);
            }
            if (around < 10) {
                due("the first beyond behind " + text, faultOf(text + around), around);
            }
        }
        due("behind a term that was in an L", faultOf("@L00"), 3);
        due("ahead of an L", faultOf("@0L0"), 1);
        CountedTerms x = Check.with("@LL@1@10@LL@1@10L@L1@0b");
        for (int steps = 0; steps < 7; steps++) {
            due("a step is done", x.step(0, steps % 2) > 0 ? 1 : 0, 1);
            eachIsBoundWithin(x, x.of(0, 0));
        }
    }

    private static void eachIsBoundWithin(CountedTerms x, int parts) {
        for (int place = 0; place < parts; place++) {
            if (x.part(0, place, 0) == 0) {
                int binder = x.part(0, place, 4);
                due("the kind of what binds it", x.part(0, binder, 0), 2);
                due("it stands within", binder < place && x.part(0, binder, 3) > place ? 1 : 0, 1);
            }
        }
    }

    private static void constantsInTexts() {
        CHECK.sentence("Terms", "A constant is one of 6 (a to f, 0 to 5).");
        for (int constant = 0; constant <= 5; constant++) {
            CountedTerms x = new CountedTerms();
            x.put('a' + constant);
            due("read it", x.read(3), 1);
            due("its kind", x.part(3, 0, 0), 1);
            due("its number", x.part(3, 0, 1), constant);
            due("its name", x.named(3, 0), 'a' + constant);
        }
        for (char beyond : new char[] {'a' - 1, 'f' + 1, 'A', 'F'}) {
            CountedTerms x = new CountedTerms();
            x.put(beyond);
            due("the fault of code " + (int) beyond, x.fault(), 0);
            due("read code " + (int) beyond, x.read(3), BAD_TEXT);
        }
    }

    private static void constantsAsNumbers() {
        CHECK.sentence("Promise 5", "- `constant`: 0 to 5");
        String[] bound = {"L@@@@@0bcdef", "L@@@@@a0cdef", "L@@@@@ab0def", "L@@@@@abc0ef", "L@@@@@abcd0f", "L@@@@@abcde0"};
        CountedTerms x = Check.with("@@@@@abcdef");
        for (int constant = 0; constant <= 5; constant++) {
            due("bind constant " + constant, x.bind(0, constant, 1), 1);
            CHECK.holds(x, 1, bound[constant]);
        }
        for (int beyond : new int[] {-1, 6, 255, 256, Integer.MIN_VALUE, Integer.MAX_VALUE}) {
            due("bind constant " + beyond, x.bind(0, beyond, 1), BAD_VALUE);
        }
        CHECK.holds(x, 1, bound[5]);
    }

    private static void registers() {
        CHECK.sentence("Terms", "There are 6 registers, 0 to 5, each with a term (at first the constant a).");
        CountedTerms x = new CountedTerms();
        for (int register = 0; register <= 5; register++) {
            CHECK.holds(x, register, "a");
        }
        String[] texts = {"b", "Lb", "@bb", "L@0b", "@b@bb", "L@0@0b"};
        for (int register = 0; register <= 5; register++) {
            Check.write(x, texts[register]);
            due("read " + register, x.read(register), register + 1);
            due("the others stay", x.count(0), 6 + register * (register + 1) / 2);
        }
        for (int register = 0; register <= 5; register++) {
            CHECK.holds(x, register, texts[register]);
        }
        for (int beyond : new int[] {-1, 6, Integer.MIN_VALUE, Integer.MAX_VALUE}) {
            due("of " + beyond, x.of(beyond, 0), NO_SUCH);
        }
    }

    private static void partsOfApply() {
        CHECK.sentence("Promise 4", "TOO_MANY if it would have more than 200.");
        CountedTerms x = Check.withLongTerms();
        due("1 and 1", x.apply(1, 1, 1), 3);
        x.undo();
        due("99 and 99", x.apply(3, 3, 0), 199);
        due("100 and 99", x.apply(2, 3, 0), 200);
        due("99 and 100", x.apply(3, 2, 0), 200);
        due("100 and 100", x.apply(2, 2, 0), TOO_MANY);
        due("199 and 1", x.apply(4, 1, 0), TOO_MANY);
        due("1 and 199", x.apply(1, 4, 0), TOO_MANY);
        due("200 and 200", x.apply(5, 5, 0), TOO_MANY);
        due("what was made last stays", x.of(0, 0), 200);
        due("its function", x.part(0, 1, 3), 100);
        due("its argument", x.part(0, 100, 3), 200);
    }

    private static void partsOfBind() {
        CHECK.sentence("Promise 5", "TOO_MANY if it would have more than 200 parts.");
        CountedTerms x = Check.withLongTerms();
        due("1 part", x.bind(1, 0, 0), 1);
        due("2 parts then", x.of(0, 0), 2);
        due("199 parts", x.bind(4, 0, 0), 100);
        due("200 parts then", x.of(0, 0), 200);
        due("200 parts", x.bind(5, 0, 0), TOO_MANY);
        due("200 parts that bind nothing", x.bind(5, 2, 0), TOO_MANY);
        due("200 parts in their own register", x.bind(5, 0, 5), TOO_MANY);
        due("they stay", x.of(5, 3), 0);
        due("what was made last stays", x.of(0, 3), 100);
    }

    /** Register 1 has a function that doubles a long argument, so many L ahead of it: a step makes nearly twice the parts. */
    private static CountedTerms withDoubled(int argument, int ahead) {
        CountedTerms x = Check.withLongTerms();
        Check.write(x, "L@00");
        x.read(0);
        x.apply(0, argument, 1);
        Check.deepen(x, 1, ahead);
        return x;
    }

    private static void partsOfStep() {
        CHECK.sentence("Terms", "it is not done if the term had more than 200 parts then (it is stuck)");
        for (int order = 0; order <= 1; order++) {
            due("to 199 by " + order, withDoubled(3, 0).step(1, order), 199);
            due("to 200 by " + order, withDoubled(3, 1).step(1, order), 200);
            due("to 201 by " + order, withDoubled(3, 2).step(1, order), TOO_MANY);
            due("to 202 by " + order, withDoubled(3, 3).step(1, order), TOO_MANY);
        }
        due("to 199 by WEAK", withDoubled(3, 0).step(1, 2), 199);
        due("to 201 by WEAK", withDoubled(2, 0).step(1, 2), TOO_MANY);
        CountedTerms x = withDoubled(2, 0);
        due("the stuck term", x.of(1, 0), 105);
        x.step(1, 0);
        due("the stuck term stays", x.of(1, 0), 105);
        due("its place too", x.of(1, 7), 0);
        CHECK.sentence("Terms", "A term has at most 200 parts.");
        // The argument of 191 parts goes, or comes once: 200 parts are no reason to be stuck.
        x = Check.with("Lb", "L@0b", Check.chain(47));
        x.apply(2, 2, 2);
        x.apply(2, 2, 2);
        x.apply(0, 2, 3);
        due("191 and 3", x.of(3, 0), 194);
        Check.deepen(x, 3, 6);
        due("200 parts", x.of(3, 0), 200);
        due("to 7", x.step(3, 0), 7);
        x.apply(1, 2, 3);
        Check.deepen(x, 3, 4);
        due("200 parts", x.of(3, 0), 200);
        due("to 197", x.step(3, 1), 197);
    }

    private static void partsOfRun() {
        CHECK.sentence("Promise 7", "is stuck");
        CountedTerms x = withDoubled(3, 1);
        due("a run to 200", x.run(1, 0, 200), 1);
        due("200 parts", x.of(1, 0), 200);
        x = withDoubled(3, 2);
        due("a run to 201", x.run(1, 0, 200), 0);
        due("106 parts stay", x.of(1, 0), 106);
        // 200 parts that stay 200 parts by each step: they are never stuck.
        x = Check.with("@L@00L@00", Check.chain(47));
        x.apply(1, 1, 1);
        due("95 and 9 and 1", x.apply(1, 0, 2), 105);
        Check.deepen(x, 2, 95);
        due("200 parts", x.of(2, 0), 200);
        due("a run", x.run(2, 0, 200), 200);
        due("200 parts still", x.of(2, 0), 200);
    }
}
