/** Promises 1 to 7: a new object, read, copy, apply, bind, step and run. */
public final class ChangesTest {
    private static final Check CHECK = new Check("ChangesTest");
    private static final int NO_SUCH = -1, BAD_VALUE = -2, BAD_TEXT = -3, TOO_MANY = -4, NOT_POSSIBLE = -5;
    private static final int[] NO_REGISTERS = {-1, 6, Integer.MIN_VALUE, Integer.MAX_VALUE};
    private static final int[] NO_ORDERS = {-1, 3, Integer.MIN_VALUE, Integer.MAX_VALUE};

    public static void main(String[] args) {
        newObject();
        read();
        copy();
        apply();
        bind();
        step();
        run();
        CHECK.finish();
    }

    private static void due(String call, long got, long want) {
        CHECK.due(call, got, want);
    }

    private static void holds(CountedTerms x, int register, String text) {
        CHECK.due("the term of " + register, Check.text(x, register), text);
    }

    private static void newObject() {
        CountedTerms x = new CountedTerms();
        for (int register = 0; register < 6; register++) {
            holds(x, register, "a");
        }
        due("new: parts", x.count(0), 6);
        due("new: at rest", x.count(1), 63);
        due("new: pad", x.count(2), 0);
        due("new: changes", x.count(3), 0);
        due("new: undo", x.undo(), NOT_POSSIBLE);
        due("new: restore 0", x.restore(0), NOT_POSSIBLE);
        due("new: restore 1", x.restore(1), NOT_POSSIBLE);
        CountedTerms other = new CountedTerms();
        other.bind(0, 0, 0);
        holds(x, 0, "a");
    }

    private static void read() {
        CountedTerms x = new CountedTerms();
        due("read an empty pad", x.read(0), BAD_TEXT);
        Check.write(x, "@L0");
        for (int register : NO_REGISTERS) {
            due("read " + register + " of a faulty pad", x.read(register), NO_SUCH);
        }
        due("read too short a text", x.read(5), BAD_TEXT);
        due("pad behind a read that failed", x.count(2), 3);
        due("changes behind a read that failed", x.count(3), 0);
        Check.write(x, "f");
        for (int register : NO_REGISTERS) {
            due("read " + register, x.read(register), NO_SUCH);
        }
        due("read", x.read(5), 4);
        holds(x, 5, "@L0f");
        due("pad behind read", x.count(2), 0);
        due("changes behind read", x.count(3), 1);
        due("read again", x.read(5), BAD_TEXT);
        Check.write(x, "b");
        due("read a shorter one", x.read(5), 1);
        holds(x, 5, "b");
        String longest = "LLLLLLLLLLL" + "@".repeat(24) + "9876543210abcdef012345678";
        Check.write(x, longest);
        due("read 60 characters", x.read(0), 60);
        holds(x, 0, longest);
        Check.write(x, longest.substring(1) + "a");
        due("a text with a part too many", x.read(0), BAD_TEXT);
    }

    private static void copy() {
        CountedTerms x = Check.with("LL1", "@bc");
        for (int register : NO_REGISTERS) {
            due("copy from " + register, x.copy(register, 0), NO_SUCH);
            due("copy to " + register, x.copy(0, register), NO_SUCH);
        }
        due("changes behind failures", x.count(3), 2);
        due("copy", x.copy(0, 5), 3);
        holds(x, 5, "LL1");
        holds(x, 0, "LL1");
        due("copy a shorter one", x.copy(2, 5), 1);
        holds(x, 5, "a");
        due("copy to itself", x.copy(1, 1), 3);
        holds(x, 1, "@bc");
        due("changes", x.count(3), 5);
        x.bind(0, 0, 0);
        due("copy behind", x.copy(0, 1), 4);
        x.bind(0, 0, 0);
        holds(x, 1, "LLL1");
    }

    private static void apply() {
        CountedTerms x = Check.with("LL1", "@bc", Check.chain(57));
        for (int register : NO_REGISTERS) {
            due("apply " + register, x.apply(register, 0, 0), NO_SUCH);
            due("apply to argument " + register, x.apply(0, register, 0), NO_SUCH);
            due("apply into " + register, x.apply(0, 0, register), NO_SUCH);
        }
        due("apply", x.apply(0, 1, 3), 7);
        holds(x, 3, "@LL1@bc");
        due("apply in place of the argument", x.apply(0, 1, 1), 7);
        holds(x, 1, "@LL1@bc");
        due("apply in place of the function", x.apply(0, 4, 0), 5);
        holds(x, 0, "@LL1a");
        due("apply to itself", x.apply(0, 0, 0), 11);
        holds(x, 0, "@@LL1a@LL1a");
        applyToTheBrim();
    }

    private static void applyToTheBrim() {
        CountedTerms x = Check.with(Check.chain(49), Check.chain(50), "L@aa");
        due("99", x.apply(0, 0, 3), 99);
        due("200 are allowed", x.bind(3, 1, 4), 0);
        due("100 parts", x.of(4, 0), 100);
        due("99 and 100 and 1", x.apply(3, 4, 5), 200);
        int changes = x.count(3);
        due("201 are too many", x.apply(4, 4, 5), TOO_MANY);
        due("too many and no such", x.apply(4, 4, 6), NO_SUCH);
        due("200 and 1 are too many", x.apply(5, 5, 5), TOO_MANY);
        due("a change that failed", x.count(3), changes);
        due("nothing is different", x.of(5, 0), 200);
    }

    private static void bind() {
        CountedTerms x = Check.with("@aL@0@aL@a1", "@Lbc", "LL@1f");
        for (int register : NO_REGISTERS) {
            due("bind " + register, x.bind(register, 6, 0), NO_SUCH);
            due("bind into " + register, x.bind(0, 6, register), NO_SUCH);
        }
        due("bind constant -1", x.bind(0, -1, 0), BAD_VALUE);
        due("bind constant 6", x.bind(0, 6, 0), BAD_VALUE);
        due("bind constant max", x.bind(0, Integer.MAX_VALUE, 0), BAD_VALUE);
        due("bind constant min", x.bind(0, Integer.MIN_VALUE, 0), BAD_VALUE);
        due("changes behind failures", x.count(3), 3);
        due("bind a", x.bind(0, 0, 3), 3);
        holds(x, 3, "L@0L@0@1L@21");
        holds(x, 0, "@aL@0@aL@a1");
        due("bind what is not there", x.bind(0, 5, 0), 0);
        holds(x, 0, "L@aL@0@aL@a1");
        due("bind b", x.bind(1, 1, 1), 1);
        holds(x, 1, "L@L1c");
        due("bind c then", x.bind(1, 2, 1), 1);
        holds(x, 1, "LL@L11");
        due("its variables", x.of(1, 3), 2);
        due("bind f", x.bind(2, 5, 2), 1);
        holds(x, 2, "LLL@12");
        bindTheLongest();
    }

    private static void bindTheLongest() {
        CountedTerms x = Check.with(Check.chain(49), Check.chain(59));
        x.apply(0, 0, 2);
        due("99 parts", x.of(2, 0), 99);
        x.apply(2, 2, 3);
        due("199 parts", x.of(3, 0), 199);
        due("200 parts come", x.bind(3, 0, 4), 100);
        due("200 parts", x.of(4, 0), 200);
        due("201 parts would come", x.bind(4, 0, 5), TOO_MANY);
        due("bad value comes first", x.bind(4, 6, 5), BAD_VALUE);
        holds(x, 5, "a");
        x = Check.with("@ab");
        for (int i = 0; i < 150; i++) {
            x.bind(0, 5, 0);
        }
        due("bind from behind 150 L", x.bind(0, 0, 0), 1);
        due("the most L", x.of(0, 5), 151);
        due("the variable", x.of(0, 10), 150);
    }

    private static void step() {
        CountedTerms x = Check.with("@L0@L0a", "LL1", "@L@00L@00", "L@L0a");
        for (int register : NO_REGISTERS) {
            due("step " + register, x.step(register, 3), NO_SUCH);
        }
        for (int order : NO_ORDERS) {
            due("step of order " + order, x.step(0, order), BAD_VALUE);
            due("step of order " + order + " at rest", x.step(1, order), BAD_VALUE);
        }
        for (int order = 0; order < 3; order++) {
            due("step at rest", x.step(1, order), NOT_POSSIBLE);
        }
        due("changes behind failures", x.count(3), 4);
        due("step OUTER", x.step(0, 0), 4);
        holds(x, 0, "@L0a");
        due("changes", x.count(3), 5);
        due("step INNER", x.step(0, 1), 1);
        holds(x, 0, "a");
        due("step of what stays", x.step(2, 2), 9);
        holds(x, 2, "@L@00L@00");
        due("step WEAK of what is at rest by it alone", x.step(3, 2), NOT_POSSIBLE);
        due("step OUTER of it", x.step(3, 0), 2);
        stepToTheBrim();
    }

    private static void stepToTheBrim() {
        // The argument of 57 parts comes three times: a step makes 109 parts more.
        CountedTerms x = Check.with("L@@000", Check.chain(57), Check.chain(25));
        x.apply(0, 1, 4);
        due("a step to less than 200", x.step(4, 0), 173);
        x.apply(0, 1, 4);
        x.apply(4, 2, 5);
        due("a step to 199", x.step(5, 0), 199);
        x.apply(4, 2, 5);
        x.bind(5, 1, 5);
        due("at rest behind a step to 200", x.ends(5, 0, 1), 1);
        due("the most parts", x.most(5, 0, 1), 200);
        due("a run to 200", x.run(5, 0, 9), 1);
        x.undo();
        due("a step to 200", x.step(5, 0), 200);
        x.apply(4, 2, 5);
        x.bind(5, 1, 5);
        x.bind(5, 1, 5);
        due("a step to 201", x.step(5, 0), TOO_MANY);
        due("a step to 201 by another order", x.step(5, 1), TOO_MANY);
        due("at rest by WEAK", x.step(5, 2), NOT_POSSIBLE);
        due("the stuck term", x.of(5, 0), 92);
        due("a run to 201", x.run(5, 0, 9), 0);
        due("its end", x.ends(5, 0, 9), -6);
        due("its most parts", x.most(5, 0, 9), 92);
    }

    private static void run() {
        CountedTerms x = Check.with("@L0@L0a", "@L@00L@00", "@L@@000L@@000", "L@L0a", "LL1");
        for (int register : NO_REGISTERS) {
            due("run " + register, x.run(register, 3, 0), NO_SUCH);
        }
        for (int order : NO_ORDERS) {
            due("run by order " + order, x.run(0, order, 1), BAD_VALUE);
        }
        for (int fuel : new int[] {0, -1, 201, Integer.MIN_VALUE, Integer.MAX_VALUE}) {
            due("run with fuel " + fuel, x.run(0, 0, fuel), BAD_VALUE);
        }
        due("changes behind failures", x.count(3), 5);
        due("run with fuel 1", x.run(0, 0, 1), 1);
        holds(x, 0, "@L0a");
        due("run to rest", x.run(0, 0, 200), 1);
        holds(x, 0, "a");
        due("run at rest", x.run(4, 0, 200), 0);
        due("changes", x.count(3), 6);
        due("run without end", x.run(1, 1, 200), 200);
        due("run until stuck", x.run(2, 0, 200), 26);
        due("its parts", x.of(2, 0), 195);
        due("stuck", x.step(2, 0), TOO_MANY);
        due("run when stuck", x.run(2, 0, 1), 0);
        due("run by WEAK under an L", x.run(3, 2, 7), 0);
        due("run by INNER under an L", x.run(3, 1, 7), 1);
        holds(x, 3, "La");
    }
}
