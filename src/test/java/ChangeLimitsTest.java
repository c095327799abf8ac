/** Promises 1 to 7: each sentence there that names a limit; what is refused stands in RefusalsTest too. */
public final class ChangeLimitsTest {
    private static final Check CHECK = new Check("ChangeLimitsTest");
    private static final int BAD_VALUE = -2, BAD_TEXT = -3, TOO_MANY = -4, NOT_POSSIBLE = -5, NONE = -6;

    public static void main(String[] args) {
        newObject();
        readTheShortest();
        readTheLongest();
        readEmptiesThePad();
        readOnlyWithoutFault();
        copyAnything();
        applyTheShortest();
        applyToItself();
        bindSoMany();
        bindAhead();
        stepByEachOrder();
        stepAtRest();
        stepAnswers();
        fuelOfRun();
        runEnds();
        runFromRest();
        CHECK.finish();
    }

    private static void due(String call, long got, long want) {
        CHECK.due(call, got, want);
    }

    private static void newObject() {
        CHECK.sentence("Promise 1", "Creates registers that have the constant a.");
        CountedTerms x = new CountedTerms();
        for (int register = 0; register <= 5; register++) {
            due("parts of " + register, x.of(register, 0), 1);
            due("kind in " + register, x.part(register, 0, 0), 1);
            due("number in " + register, x.part(register, 0, 1), 0);
            due("name in " + register, x.named(register, 0), 'a');
            due("no second name in " + register, x.named(register, 1), -1);
        }
        due("all parts", x.count(0), 6);
        due("all at rest", x.count(1), 63);
        due("an empty pad", x.count(2), 0);
        due("an empty history", x.count(3), 0);
        due("nothing to undo", x.undo(), NOT_POSSIBLE);
        due("an empty slot 0", x.restore(0), NOT_POSSIBLE);
        due("an empty slot 1", x.restore(1), NOT_POSSIBLE);
        due("no text", x.fault(), 0);
        due("nothing to wipe", x.wipe(), 0);
        // Another object has nothing of it.
        x.bind(0, 0, 0);
        x.put('L');
        x.save(0);
        CountedTerms y = new CountedTerms();
        due("all parts of another one", y.count(0), 6);
        due("the pad of another one", y.count(2), 0);
        due("the history of another one", y.count(3), 0);
        due("the slot of another one", y.restore(0), NOT_POSSIBLE);
    }

    private static void readTheShortest() {
        CHECK.sentence("Promise 2", "Returns how many parts it has");
        for (String text : new String[] {"f", "L0", "Lf", "@ab", "LL1"}) {
            CountedTerms x = new CountedTerms();
            Check.write(x, text);
            due("read " + text, x.read(4), text.length());
            CHECK.holds(x, 4, text);
        }
    }

    private static void readTheLongest() {
        CHECK.sentence("Terms", "The pad is a text of at most 60 characters");
        for (String text : new String[] {"L".repeat(59) + "9", "L".repeat(59) + "0", Check.chain(59), Check.chain(60)}) {
            CountedTerms x = new CountedTerms();
            Check.write(x, text);
            due("read " + text, x.read(4), text.length());
            CHECK.holds(x, 4, text);
            due("the number of the last part", x.part(4, text.length() - 1, 3), text.length());
        }
    }

    private static void readEmptiesThePad() {
        CHECK.sentence("Promise 2", "Makes the pad the term of a register, and empties the pad.");
        CountedTerms x = new CountedTerms();
        Check.write(x, Check.chain(59));
        x.read(0);
        due("the pad", x.count(2), 0);
        due("the fault of an empty pad", x.fault(), 0);
        due("nothing to wipe", x.wipe(), 0);
        due("nothing to read", x.read(0), BAD_TEXT);
        due("room for 8 again", x.put(Check.packed("@@@@bcde")), 8);
        due("and one", x.put('f'), 9);
        due("read in place of a longer one", x.read(0), 9);
        CHECK.holds(x, 0, "@@@@bcdef");
    }

    private static void readOnlyWithoutFault() {
        CHECK.sentence("Promise 2", "BAD_TEXT if the pad has a fault.");
        for (String text : new String[] {"", "L", "@", "@a", "0", "g", "aa", "@abc", "L1", "L@0", "@".repeat(60), Check.chain(59) + "a"}) {
            CountedTerms x = new CountedTerms();
            Check.write(x, text);
            due("read " + text, x.read(0), BAD_TEXT);
            due("the pad stays", x.count(2), text.length());
            due("no change", x.count(3), 0);
            CHECK.holds(x, 0, "a");
        }
    }

    private static void copyAnything() {
        CHECK.sentence("Promise 3", "Gives a register the term of another one.");
        CountedTerms x = Check.withLongTerms();
        due("copy 200 parts", x.copy(5, 0), 200);
        due("they are the same", x.same(5, 0), 1);
        due("copy 1 part over them", x.copy(1, 0), 1);
        CHECK.holds(x, 0, "a");
        due("copy 199 parts", x.copy(4, 1), 199);
        due("to itself", x.copy(5, 5), 200);
        due("its first part", x.part(5, 0, 0), 2);
        due("its last part", x.part(5, 199, 0), 1);
        due("register 0 to 5", x.copy(0, 5), 1);
        due("register 5 to 0", x.copy(5, 0), 1);
        due("a copy is a change", x.count(3), 6);
    }

    private static void applyTheShortest() {
        CHECK.sentence("Promise 4", "Returns how many parts it has");
        CountedTerms x = Check.with("b", "c");
        due("1 and 1", x.apply(0, 1, 2), 3);
        CHECK.holds(x, 2, "@bc");
        due("the other way", x.apply(1, 0, 5), 3);
        CHECK.holds(x, 5, "@cb");
        due("3 and 1", x.apply(2, 0, 3), 5);
        CHECK.holds(x, 3, "@@bcb");
        due("1 and 3", x.apply(0, 2, 3), 5);
        CHECK.holds(x, 3, "@b@bc");
    }

    private static void applyToItself() {
        CHECK.sentence("Promise 4", "- `to`: the register that gets it");
        CountedTerms x = Check.with("L0", "b");
        due("in place of the function", x.apply(0, 1, 0), 4);
        CHECK.holds(x, 0, "@L0b");
        due("in place of the argument", x.apply(0, 1, 1), 6);
        CHECK.holds(x, 1, "@@L0bb");
        due("one register for all", x.apply(0, 0, 0), 9);
        CHECK.holds(x, 0, "@@L0b@L0b");
        due("each is a change", x.count(3), 5);
    }

    private static void bindSoMany() {
        CHECK.sentence("Promise 5", "Returns how many places of the constant are bound by that");
        CountedTerms x = Check.with("@bb", "@bL@0b", "LL@01");
        due("none", x.bind(0, 0, 3), 0);
        CHECK.holds(x, 3, "L@bb");
        due("all", x.bind(0, 1, 3), 2);
        CHECK.holds(x, 3, "L@00");
        due("none of what is bound already", x.bind(3, 1, 3), 0);
        CHECK.holds(x, 3, "LL@00");
        due("one within an L and one that is not", x.bind(1, 1, 4), 2);
        CHECK.holds(x, 4, "L@0L@01");
        due("no constant at all", x.bind(2, 5, 5), 0);
        CHECK.holds(x, 5, "LLL@01");
        x = Check.withLongTerms();
        due("100 of them", x.bind(4, 0, 0), 100);
        due("no constant is left", x.of(0, 4), 0);
        due("100 variables", x.of(0, 3), 100);
    }

    private static void bindAhead() {
        CHECK.sentence("Promise 5", "an L in front of it, which binds what was a constant");
        CountedTerms x = Check.with("L".repeat(9) + "@8f", "c");
        due("behind 9 L", x.bind(0, 5, 2), 1);
        CHECK.holds(x, 2, "L".repeat(10) + "@89");
        due("the L in front", x.part(2, 12, 4), 0);
        due("the L that was the first", x.part(2, 11, 4), 1);
        due("in its own register", x.bind(1, 2, 1), 1);
        CHECK.holds(x, 1, "L0");
        due("the number of the L", x.part(1, 0, 1), 0);
    }

    private static void stepByEachOrder() {
        CHECK.sentence("Promise 6", "- `order`: OUTER to WEAK");
        String[] results = {"@@L0b@L0b", "@L@00b", "@@L0b@L0b"};
        for (int order = 0; order <= 2; order++) {
            CountedTerms x = Check.with("@L@00@L0b");
            due("a step by " + order, x.step(0, order), results[order].length());
            CHECK.holds(x, 0, results[order]);
        }
        CountedTerms x = Check.with("@L@00@L0b");
        for (int order : new int[] {-1, 3, 256, Integer.MIN_VALUE, Integer.MAX_VALUE}) {
            due("a step by " + order, x.step(0, order), BAD_VALUE);
        }
        CHECK.holds(x, 0, "@L@00@L0b");
    }

    private static void stepAtRest() {
        CHECK.sentence("Promise 6", "NOT_POSSIBLE if it is at rest by this order; TOO_MANY if it is stuck.");
        CountedTerms x = Check.with("@L0@L0b");
        due("one", x.step(0, 0), 4);
        due("the last one", x.step(0, 0), 1);
        due("one more", x.step(0, 0), NOT_POSSIBLE);
        due("by INNER", x.step(0, 1), NOT_POSSIBLE);
        due("by WEAK", x.step(0, 2), NOT_POSSIBLE);
        due("changes", x.count(3), 3);
        CHECK.holds(x, 0, "b");
        x = Check.withLongTerms();
        for (int order = 0; order <= 2; order++) {
            due("200 parts at rest by " + order, x.step(5, order), NOT_POSSIBLE);
        }
        Check.write(x, "L@00");
        x.read(0);
        x.apply(0, 2, 0);
        for (int order = 0; order <= 2; order++) {
            due("stuck by " + order, x.step(0, order), TOO_MANY);
        }
        x.bind(0, 5, 0);
        due("at rest by WEAK, stuck by others", x.step(0, 2), NOT_POSSIBLE);
    }

    private static void stepAnswers() {
        CHECK.sentence("Promise 6", "Returns how many parts the term has then");
        CountedTerms x = Check.with("@L0b", "@L@00b", "@L@@000@bc", "@L@00L@00");
        due("the fewest", x.step(0, 0), 1);
        due("fewer", x.step(1, 0), 3);
        due("more", x.step(2, 0), 11);
        due("as many", x.step(3, 0), 9);
    }

    private static void fuelOfRun() {
        CHECK.sentence("Promise 7", "- `fuel`: 1 to 200");
        for (int order = 0; order <= 2; order++) {
            CountedTerms x = Check.with("@L@00L@00");
            for (int fuel : new int[] {0, -1, 201, 256, 257, Integer.MIN_VALUE, Integer.MAX_VALUE}) {
                due("a run with fuel " + fuel, x.run(0, order, fuel), BAD_VALUE);
            }
            due("no change", x.count(3), 1);
            due("a run with fuel 1", x.run(0, order, 1), 1);
            due("a run with fuel 2", x.run(0, order, 2), 2);
            due("a run with fuel 199", x.run(0, order, 199), 199);
            due("a run with fuel 200", x.run(0, order, 200), 200);
        }
    }

    private static void runEnds() {
        CHECK.sentence("Promise 7", "Does steps until the term is at rest by the order, is stuck, or the fuel is used up (one for each step).");
        String[] left = {"@L0@L0@L0b", "@L0@L0b", "@L0b", "b", "b"};
        for (int fuel = 1; fuel <= 4; fuel++) {
            for (int order = 0; order <= 2; order++) {
                CountedTerms x = Check.with(left[0]);
                due("a run with fuel " + fuel, x.run(0, order, fuel), Math.min(fuel, 3));
                CHECK.holds(x, 0, left[fuel]);
                due("one change", x.count(3), 2);
            }
        }
        CountedTerms x = Check.with("@L@@000L@@000");
        int steps = 0;
        while (steps < 100 && x.step(0, 0) > 0) {
            steps++;
        }
        due("stuck then", x.step(0, 0), TOO_MANY);
        int parts = x.of(0, 0);
        for (int fuel = steps - 1; fuel <= steps + 1; fuel++) {
            x = Check.with("@L@@000L@@000");
            due("a run with fuel " + fuel, x.run(0, 0, fuel), Math.min(fuel, steps));
            due("it is as far as by steps", x.of(0, 0) == parts ? 1 : 0, fuel < steps ? 0 : 1);
        }
    }

    private static void runFromRest() {
        CHECK.sentence("Promise 7", "Returns how many steps were done");
        CountedTerms x = Check.with("LL1", "L@L0b");
        for (int order = 0; order <= 2; order++) {
            due("a run at rest by " + order, x.run(0, order, 200), 0);
        }
        due("a run at rest by WEAK", x.run(1, 2, 1), 0);
        due("each is a change", x.count(3), 6);
        due("a run by OUTER", x.run(1, 0, 1), 1);
        CHECK.holds(x, 1, "Lb");
        due("nothing comes next", x.of(1, 7), NONE);
    }
}
